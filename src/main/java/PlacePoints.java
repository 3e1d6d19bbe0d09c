/** Points, lines and polygons in a plane of whole units, measured exactly. */
public final class PlacePoints {
    public static final int BAD = -1;
    public static final int FULL = -2;

    private static final int REACH = 10000;
    private static final int MOST_SHAPES = 60;
    private static final int MOST_CORNERS = 400;

    /** By their numbers; null where a shape went, since a number is not used again. */
    private final Shape[] made = new Shape[MOST_SHAPES];
    private int madeCount = 0;
    private int standingCount = 0;
    private int cornersUsed = 0;

    private final int[] boxedNumbers = new int[MOST_SHAPES];
    private int boxedCount = 0;

    // Used again by every call that measures, since each new object is counted.
    private final Fraction gap = new Fraction();
    private final long[] gapUppers = new long[MOST_SHAPES];
    private final long[] gapLowers = new long[MOST_SHAPES];
    private final int[] sortedNumbers = new int[MOST_SHAPES];

    public PlacePoints() {
    }

    public int point(int x, int y) {
        if (!isPlace(x, y)) {
            return BAD;
        }
        if (cornersUsed >= MOST_CORNERS) {
            return FULL;
        }
        int number = make(Kind.POINT);
        Shape shape = standing(number);
        if (shape != null) {
            shape.add(x, y);
            cornersUsed++;
        }
        return number;
    }

    public int line() {
        return make(Kind.LINE);
    }

    public int polygon() {
        return make(Kind.POLYGON);
    }

    public int corner(int shape, int x, int y) {
        Shape grown = standing(shape);
        if (grown == null || grown.kind == Kind.POINT || !isPlace(x, y)) {
            return BAD;
        }
        if (cornersUsed >= MOST_CORNERS || grown.size >= grown.kind.most) {
            return FULL;
        }
        grown.add(x, y);
        cornersUsed++;
        return grown.size;
    }

    public int remove(int shape) {
        if (standing(shape) == null) {
            return BAD;
        }
        made[shape] = null;
        standingCount--;
        return 1;
    }

    public int check(int shape) {
        Shape checked = standing(shape);
        return checked == null ? BAD : checked.verdict;
    }

    public int inside(int x, int y, int polygon) {
        Shape around = right(polygon);
        if (around == null || around.kind != Kind.POLYGON || !isPlace(x, y)) {
            return BAD;
        }
        return around.whereIs(x, y);
    }

    public int meets(int a, int b) {
        Shape one = right(a);
        Shape other = right(b);
        if (one == null || other == null) {
            return BAD;
        }
        return one.touches(other) ? 1 : 0;
    }

    public long square(int a, int b, int part) {
        Shape one = right(a);
        Shape other = right(b);
        if (one == null || other == null) {
            return BAD;
        }
        one.measureTo(other, gap);
        gap.reduce();
        return part == 0 ? gap.upper : gap.lower;
    }

    public int near(int x, int y, int k) {
        if (!isPlace(x, y)) {
            return BAD;
        }
        int count = sortByGapTo(x, y);
        return k < 0 || k >= count ? BAD : sortedNumbers[k];
    }

    public long area(int shape) {
        Shape measured = right(shape);
        return measured == null || measured.kind != Kind.POLYGON ? 0 : measured.twiceEnclosed();
    }

    public int boxed(int x, int y, int u, int v) {
        boxedCount = 0;
        if (x > u || y > v) {
            return 0;
        }
        for (int i = 0; i < madeCount; i++) {
            Shape shape = right(i);
            if (shape != null && shape.boxMeets(x, y, u, v)) {
                boxedNumbers[boxedCount] = i;
                boxedCount++;
            }
        }
        return boxedCount;
    }

    public int found(int i) throws ArrayIndexOutOfBoundsException {
        if (i < 0 || i >= boxedCount) {
            throw new ArrayIndexOutOfBoundsException();
        }
        return boxedNumbers[i];
    }

    public int shapes() {
        return standingCount;
    }

    private static boolean isPlace(int x, int y) {
        return x >= -REACH && x <= REACH && y >= -REACH && y <= REACH;
    }

    /** The new shape's number, or FULL. */
    private int make(Kind kind) {
        if (madeCount >= MOST_SHAPES) {
            return FULL;
        }
        int number = madeCount;
        made[number] = new Shape(kind);
        madeCount++;
        standingCount++;
        return number;
    }

    /** The shape of that number, or null when there is none such. */
    private Shape standing(int number) {
        return number < 0 || number >= madeCount ? null : made[number];
    }

    /** The right shape of that number, or null when there is none such. */
    private Shape right(int number) {
        Shape shape = standing(number);
        return shape == null || shape.verdict != Shape.RIGHT ? null : shape;
    }

    /** Puts the numbers of the right shapes into their row, the nearest first, and tells how many they are. */
    private int sortByGapTo(int x, int y) {
        Shape place = new Shape(Kind.POINT);
        place.add(x, y);
        int count = 0;
        for (int i = 0; i < madeCount; i++) {
            Shape shape = right(i);
            if (shape != null) {
                shape.measureTo(place, gap);
                gapUppers[i] = gap.upper;
                gapLowers[i] = gap.lower;
                insertByGap(i, count);
                count++;
            }
        }
        return count;
    }

    /** Stays behind those of the same gap: they came earlier, so their numbers are less. */
    private void insertByGap(int number, int count) {
        int at = count;
        for (; at > 0 && isFarther(sortedNumbers[at - 1], number); at--) {
            sortedNumbers[at] = sortedNumbers[at - 1];
        }
        sortedNumbers[at] = number;
    }

    private boolean isFarther(int number, int other) {
        return Fraction.isAbove(gapUppers[number], gapLowers[number], gapUppers[other], gapLowers[other]);
    }

    private enum Kind {
        POINT(1, 1),
        LINE(2, 24),
        POLYGON(3, 24);

        final int least;
        final int most;

        Kind(int least, int most) {
            this.least = least;
            this.most = most;
        }
    }

    private static final class Shape {
        static final int RIGHT = 1;
        private static final int TOO_FEW = 0;
        private static final int FIRST_WRONG_SIDE = -10;
        private static final int OUTSIDE = 0;
        private static final int INSIDE = 1;
        private static final int ON_SIDE = 2;

        final Kind kind;
        int size = 0;
        /** What check() answers; kept, since most calls ask for it and only a new corner changes it. */
        int verdict = TOO_FEW;

        // The first corner stands again behind the last one, so that side i always ends at i + 1;
        // a point so has one side, of length 0.
        private final int[] xs;
        private final int[] ys;
        private int lowX = REACH;
        private int lowY = REACH;
        private int highX = -REACH;
        private int highY = -REACH;

        Shape(Kind kind) {
            this.kind = kind;
            xs = new int[kind.most + 1];
            ys = new int[kind.most + 1];
        }

        void add(int x, int y) {
            if (size >= kind.most) {
                return;
            }
            xs[size] = x;
            ys[size] = y;
            size++;
            xs[size] = xs[0];
            ys[size] = ys[0];
            lowX = Math.min(lowX, x);
            lowY = Math.min(lowY, y);
            highX = Math.max(highX, x);
            highY = Math.max(highY, y);
            verdict = judge();
        }

        boolean boxMeets(int x, int y, int u, int v) {
            return lowX <= u && highX >= x && lowY <= v && highY >= y;
        }

        long twiceEnclosed() {
            long sum = 0;
            for (int i = 0; i < size; i++) {
                sum += (long) xs[i] * ys[i + 1] - (long) xs[i + 1] * ys[i];
            }
            return sum;
        }

        /** Of a right polygon: counts the sides that a ray from the place towards greater x goes through. */
        int whereIs(int x, int y) {
            boolean within = false;
            for (int i = 0; i < size; i++) {
                long turn = turn(i, x, y);
                if (turn == 0 && overlap(xs[i], xs[i + 1], x, x) && overlap(ys[i], ys[i + 1], y, y)) {
                    return ON_SIDE;
                }
                // An end counts for the side above it alone, so a corner on the ray is not counted twice.
                boolean rises = ys[i] <= y && y < ys[i + 1];
                boolean falls = ys[i + 1] <= y && y < ys[i];
                if (rises && turn > 0 || falls && turn < 0) {
                    within = !within;
                }
            }
            return within ? INSIDE : OUTSIDE;
        }

        /** Whether two right shapes have a place in common. */
        boolean touches(Shape other) {
            for (int i = 0; i < sideCount(); i++) {
                for (int j = 0; j < other.sideCount(); j++) {
                    if (sideTouches(i, other, j)) {
                        return true;
                    }
                }
            }
            // No sides touch: one shape lies wholly in the other, or they are apart; any corner tells which.
            return holds(other.xs[0], other.ys[0]) || other.holds(xs[0], ys[0]);
        }

        /** Sets the SQUARE of two right shapes, not yet in lowest terms. */
        void measureTo(Shape other, Fraction least) {
            if (touches(other)) {
                least.set(0, 1);
                return;
            }
            least.set(squareOf(other.xs[0] - xs[0], other.ys[0] - ys[0]), 1);
            // Of two sides apart, the least distance is always found at an end of one of them.
            lessenByCorners(other, least);
            other.lessenByCorners(this, least);
        }

        private void lessenByCorners(Shape other, Fraction least) {
            for (int i = 0; i < size; i++) {
                for (int j = 0; j < other.sideCount(); j++) {
                    other.lessenBySide(j, xs[i], ys[i], least);
                }
            }
        }

        private void lessenBySide(int side, int x, int y, Fraction least) {
            long dx = xs[side + 1] - xs[side];
            long dy = ys[side + 1] - ys[side];
            long length = squareOf(dx, dy);
            long along = dx * (x - xs[side]) + dy * (y - ys[side]);
            if (along <= 0) {
                least.lessen(squareOf(x - xs[side], y - ys[side]), 1);
            } else if (along >= length) {
                least.lessen(squareOf(x - xs[side + 1], y - ys[side + 1]), 1);
            } else {
                long turn = turn(side, x, y);
                least.lessen(turn * turn, length);
            }
        }

        private boolean holds(int x, int y) {
            return kind == Kind.POLYGON && whereIs(x, y) != OUTSIDE;
        }

        private int sideCount() {
            return kind == Kind.LINE ? size - 1 : size;
        }

        private int judge() {
            if (size < kind.least) {
                return TOO_FEW;
            }
            if (kind == Kind.POINT) {
                return RIGHT;
            }
            for (int i = 0; i < sideCount(); i++) {
                if (isWrongSide(i)) {
                    return FIRST_WRONG_SIDE - i;
                }
            }
            return RIGHT;
        }

        private boolean isWrongSide(int side) {
            if (xs[side] == xs[side + 1] && ys[side] == ys[side + 1]) {
                return true;
            }
            if (kind != Kind.POLYGON) {
                return false;
            }
            // An earlier side that clashed with this one would have been told before it.
            for (int later = side + 1; later < size; later++) {
                if (clash(side, later)) {
                    return true;
                }
            }
            return false;
        }

        private boolean clash(int side, int later) {
            if (later == side + 1) {
                return foldsBack(side, later);
            }
            if (side == 0 && later == size - 1) {
                return foldsBack(later, side);
            }
            return sideTouches(side, this, later);
        }

        /** Whether a side and the next one have more in common than the corner between them. */
        private boolean foldsBack(int side, int next) {
            long backX = xs[side] - xs[next];
            long backY = ys[side] - ys[next];
            long onX = xs[next + 1] - xs[next];
            long onY = ys[next + 1] - ys[next];
            return backX * onY == backY * onX && backX * onX + backY * onY > 0;
        }

        /** Boxes apart, or both ends of one on the same hand of the other: that, and only that, keeps sides apart. */
        private boolean sideTouches(int i, Shape other, int j) {
            int[] us = other.xs;
            int[] vs = other.ys;
            return overlap(xs[i], xs[i + 1], us[j], us[j + 1])
                && overlap(ys[i], ys[i + 1], vs[j], vs[j + 1])
                && turn(i, us[j], vs[j]) * turn(i, us[j + 1], vs[j + 1]) <= 0
                && other.turn(j, xs[i], ys[i]) * other.turn(j, xs[i + 1], ys[i + 1]) <= 0;
        }

        /** Above 0 when the place lies to the left of the side, 0 on its straight line. */
        private long turn(int side, int x, int y) {
            long dx = xs[side + 1] - xs[side];
            long dy = ys[side + 1] - ys[side];
            return dx * (y - ys[side]) - dy * (x - xs[side]);
        }

        private static boolean overlap(int a, int b, int c, int d) {
            return Math.max(a, b) >= Math.min(c, d) && Math.max(c, d) >= Math.min(a, b);
        }

        private static long squareOf(long dx, long dy) {
            return dx * dx + dy * dy;
        }
    }

    /** A fraction from 0 on; its lower number is above 0 and at most 800,000,000. */
    private static final class Fraction {
        /** Far more steps than Euclid's way needs for any two longs. */
        private static final int MOST_STEPS = 200;

        long upper = 0;
        long lower = 1;

        void set(long newUpper, long newLower) {
            upper = newUpper;
            lower = newLower;
        }

        void lessen(long otherUpper, long otherLower) {
            if (isAbove(upper, lower, otherUpper, otherLower)) {
                set(otherUpper, otherLower);
            }
        }

        /** By whole parts first: upper * otherLower could pass the end of a long, rests times lowers can't. */
        static boolean isAbove(long upper, long lower, long otherUpper, long otherLower) {
            if (lower <= 0 || otherLower <= 0) {
                return false;
            }
            long whole = upper / lower;
            long otherWhole = otherUpper / otherLower;
            if (whole != otherWhole) {
                return whole > otherWhole;
            }
            return upper % lower * otherLower > otherUpper % otherLower * lower;
        }

        void reduce() {
            long divisor = greatestDivisor(upper, lower);
            if (divisor > 1) {
                upper /= divisor;
                lower /= divisor;
            }
        }

        private static long greatestDivisor(long a, long b) {
            for (int step = 0; step < MOST_STEPS && b != 0; step++) {
                long rest = a % b;
                a = b;
                b = rest;
            }
            return a;
        }
    }
}
