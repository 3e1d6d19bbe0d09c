import java.math.BigInteger;
import java.util.ArrayList;
import java.util.List;

/**
 * The document once more, in other ways than the class's own: fractions of BigIntegers, feet of heights
 * instead of cross products, turning numbers instead of rays. Slow, and only for tests.
 */
final class Reference {
    private static final int BAD = -1;
    private static final int FULL = -2;

    private final List<Form> forms = new ArrayList<>();
    private int corners = 0;
    private List<Integer> boxed = new ArrayList<>();

    private static final class Form {
        final char kind;
        final List<int[]> corners = new ArrayList<>();
        boolean gone = false;

        Form(char kind) {
            this.kind = kind;
        }

        /** Each side as x, y, u, v; a point as a side without length. */
        List<int[]> sides() {
            List<int[]> sides = new ArrayList<>();
            int n = corners.size();
            for (int i = 0; i < (kind == 'L' ? n - 1 : n); i++) {
                int[] a = corners.get(i);
                int[] b = corners.get((i + 1) % n);
                sides.add(new int[] {a[0], a[1], b[0], b[1]});
            }
            return sides;
        }
    }

    private static final class Ratio implements Comparable<Ratio> {
        static final Ratio ZERO = new Ratio(BigInteger.ZERO, BigInteger.ONE);
        static final Ratio ONE = new Ratio(BigInteger.ONE, BigInteger.ONE);
        final BigInteger upper;
        final BigInteger lower;

        Ratio(BigInteger upper, BigInteger lower) {
            BigInteger divisor = upper.gcd(lower);
            if (lower.signum() < 0) {
                divisor = divisor.negate();
            }
            this.upper = upper.divide(divisor);
            this.lower = lower.divide(divisor);
        }

        static Ratio of(long upper, long lower) {
            return new Ratio(BigInteger.valueOf(upper), BigInteger.valueOf(lower));
        }

        Ratio plus(Ratio o) {
            return new Ratio(upper.multiply(o.lower).add(o.upper.multiply(lower)), lower.multiply(o.lower));
        }

        Ratio times(Ratio o) {
            return new Ratio(upper.multiply(o.upper), lower.multiply(o.lower));
        }

        boolean isPart() {
            return compareTo(ZERO) >= 0 && compareTo(ONE) <= 0;
        }

        @Override
        public int compareTo(Ratio o) {
            return upper.multiply(o.lower).compareTo(o.upper.multiply(lower));
        }
    }

    int point(int x, int y) {
        if (!isPlace(x, y)) {
            return BAD;
        }
        if (forms.size() == 60 || corners == 400) {
            return FULL;
        }
        int number = make('P');
        forms.get(number).corners.add(new int[] {x, y});
        corners++;
        return number;
    }

    int make(char kind) {
        if (forms.size() == 60) {
            return FULL;
        }
        forms.add(new Form(kind));
        return forms.size() - 1;
    }

    int corner(int shape, int x, int y) {
        Form form = form(shape);
        if (form == null || form.kind == 'P' || !isPlace(x, y)) {
            return BAD;
        }
        if (form.corners.size() == 24 || corners == 400) {
            return FULL;
        }
        form.corners.add(new int[] {x, y});
        corners++;
        return form.corners.size();
    }

    int remove(int shape) {
        Form form = form(shape);
        if (form == null) {
            return BAD;
        }
        form.gone = true;
        return 1;
    }

    int check(int shape) {
        Form form = form(shape);
        return form == null ? BAD : verdict(form);
    }

    int inside(int x, int y, int polygon) {
        Form form = form(polygon);
        if (!isPlace(x, y) || form == null || form.kind != 'G' || verdict(form) != 1) {
            return BAD;
        }
        return where(form, x, y);
    }

    int meets(int a, int b) {
        Ratio square = square(a, b);
        return square == null ? BAD : square.upper.signum() == 0 ? 1 : 0;
    }

    long square(int a, int b, int part) {
        Ratio square = square(a, b);
        return square == null ? BAD : (part == 0 ? square.upper : square.lower).longValueExact();
    }

    int near(int x, int y, int k) {
        if (!isPlace(x, y)) {
            return BAD;
        }
        Form at = new Form('P');
        at.corners.add(new int[] {x, y});
        List<Integer> right = new ArrayList<>();
        List<Ratio> gaps = new ArrayList<>();
        for (int i = 0; i < forms.size(); i++) {
            gaps.add(isRight(i) ? gap(at, forms.get(i)) : null);
            if (isRight(i)) {
                right.add(i);
            }
        }
        right.sort((a, b) -> gaps.get(a).compareTo(gaps.get(b)) != 0 ? gaps.get(a).compareTo(gaps.get(b)) : a - b);
        return k < 0 || k >= right.size() ? BAD : right.get(k);
    }

    /** By the slabs between each side and the line y = -10000. */
    long area(int shape) {
        if (!isRight(shape) || forms.get(shape).kind != 'G') {
            return 0;
        }
        long twice = 0;
        for (int[] s : forms.get(shape).sides()) {
            twice -= (long) (s[2] - s[0]) * (s[1] + s[3] + 20000);
        }
        return twice;
    }

    int boxed(int x, int y, int u, int v) {
        boxed = new ArrayList<>();
        for (int i = 0; i < forms.size() && x <= u && y <= v; i++) {
            if (isRight(i)) {
                int[] xs = forms.get(i).corners.stream().mapToInt(c -> c[0]).sorted().toArray();
                int[] ys = forms.get(i).corners.stream().mapToInt(c -> c[1]).sorted().toArray();
                boolean apart = xs[xs.length - 1] < x || xs[0] > u || ys[ys.length - 1] < y || ys[0] > v;
                if (!apart) {
                    boxed.add(i);
                }
            }
        }
        return boxed.size();
    }

    long foundOr(int i, long standIn) {
        return i < 0 || i >= boxed.size() ? standIn : boxed.get(i);
    }

    int shapes() {
        return (int) forms.stream().filter(form -> !form.gone).count();
    }

    private static boolean isPlace(int x, int y) {
        return Math.abs((long) x) <= 10000 && Math.abs((long) y) <= 10000;
    }

    private Form form(int shape) {
        return shape < 0 || shape >= forms.size() || forms.get(shape).gone ? null : forms.get(shape);
    }

    private boolean isRight(int shape) {
        return form(shape) != null && verdict(form(shape)) == 1;
    }

    private static int verdict(Form form) {
        int n = form.corners.size();
        if (n < (form.kind == 'P' ? 1 : form.kind == 'L' ? 2 : 3)) {
            return 0;
        }
        List<int[]> sides = form.sides();
        for (int i = 0; i < sides.size() && form.kind != 'P'; i++) {
            int[] s = sides.get(i);
            boolean wrong = s[0] == s[2] && s[1] == s[3];
            for (int j = 0; j < n && form.kind == 'G'; j++) {
                if ((i + 1) % n == j) {
                    wrong |= shareMoreThanCorner(s, sides.get(j));
                } else if ((j + 1) % n == i) {
                    wrong |= shareMoreThanCorner(sides.get(j), s);
                } else if (i != j) {
                    wrong |= common(s, sides.get(j));
                }
            }
            if (wrong) {
                return -10 - i;
            }
        }
        return 1;
    }

    /** Sides that leave one corner: more in common means that one's other end lies on the other. */
    private static boolean shareMoreThanCorner(int[] s, int[] t) {
        boolean sGoes = s[0] != s[2] || s[1] != s[3];
        boolean tGoes = t[0] != t[2] || t[1] != t[3];
        return sGoes && onSide(t, s[0], s[1]) || tGoes && onSide(s, t[2], t[3]);
    }

    private static boolean onSide(int[] s, int x, int y) {
        return gap(s, x, y).upper.signum() == 0;
    }

    /** Solves for the parts of the way along both sides. */
    private static boolean common(int[] s, int[] t) {
        long ax = s[2] - s[0];
        long ay = s[3] - s[1];
        long bx = t[2] - t[0];
        long by = t[3] - t[1];
        long cx = t[0] - s[0];
        long cy = t[1] - s[1];
        long det = bx * ay - ax * by;
        if (det != 0) {
            return Ratio.of(bx * cy - by * cx, det).isPart() && Ratio.of(ax * cy - ay * cx, det).isPart();
        }
        return onSide(s, t[0], t[1]) || onSide(s, t[2], t[3]) || onSide(t, s[0], s[1]) || onSide(t, s[2], s[3]);
    }

    /** To the foot of the height, held between the ends. */
    private static Ratio gap(int[] s, int x, int y) {
        long dx = s[2] - s[0];
        long dy = s[3] - s[1];
        Ratio part = Ratio.ZERO;
        if (dx != 0 || dy != 0) {
            part = Ratio.of(dx * (x - s[0]) + dy * (y - s[1]), dx * dx + dy * dy);
            part = part.compareTo(Ratio.ZERO) < 0 ? Ratio.ZERO : part.compareTo(Ratio.ONE) > 0 ? Ratio.ONE : part;
        }
        Ratio offX = Ratio.of(s[0] - x, 1).plus(part.times(Ratio.of(dx, 1)));
        Ratio offY = Ratio.of(s[1] - y, 1).plus(part.times(Ratio.of(dy, 1)));
        return offX.times(offX).plus(offY.times(offY));
    }

    private Ratio square(int a, int b) {
        return isRight(a) && isRight(b) ? gap(forms.get(a), forms.get(b)) : null;
    }

    private static Ratio gap(Form a, Form b) {
        if (holdsCorner(a, b) || holdsCorner(b, a)) {
            return Ratio.ZERO;
        }
        Ratio least = null;
        for (int[] s : a.sides()) {
            for (int[] t : b.sides()) {
                Ratio gap = common(s, t) ? Ratio.ZERO : leastOf(gap(s, t[0], t[1]), gap(s, t[2], t[3]), gap(t, s[0], s[1]), gap(t, s[2], s[3]));
                least = least == null ? gap : leastOf(least, gap);
            }
        }
        return least;
    }

    private static Ratio leastOf(Ratio... ratios) {
        Ratio least = ratios[0];
        for (Ratio ratio : ratios) {
            least = ratio.compareTo(least) < 0 ? ratio : least;
        }
        return least;
    }

    private static boolean holdsCorner(Form a, Form b) {
        for (int[] corner : b.corners) {
            if (a.kind == 'G' && where(a, corner[0], corner[1]) != 0) {
                return true;
            }
        }
        return false;
    }

    /** By how often the corners go round the place, counted in quarters. */
    private static int where(Form form, int x, int y) {
        int quarters = 0;
        for (int[] s : form.sides()) {
            if (onSide(s, x, y)) {
                return 2;
            }
            int step = Math.floorMod(quarter(s[2] - x, s[3] - y) - quarter(s[0] - x, s[1] - y), 4);
            if (step == 2) {
                long turn = (long) (s[0] - x) * (s[3] - y) - (long) (s[1] - y) * (s[2] - x);
                quarters += turn > 0 ? 2 : -2;
            } else {
                quarters += step == 3 ? -1 : step;
            }
        }
        return quarters == 0 ? 0 : 1;
    }

    private static int quarter(int x, int y) {
        if (x > 0 && y >= 0) {
            return 0;
        }
        if (x <= 0 && y > 0) {
            return 1;
        }
        return x < 0 ? 2 : 3;
    }
}
