import java.util.ArrayList;
import java.util.Arrays;
import java.util.Random;
import java.util.TreeMap;

/** Runs of 512 calls, the same ones every time, against the reference: in narrow, wide and wild places. */
public final class ReferenceTest {
    private static final int[] WILD = {Integer.MIN_VALUE, Integer.MAX_VALUE, -10001, 10001, -10000, 10000, -1, 0, 1, 59, 60, 61};
    private static final int RUNS = 320;
    /** The most calls that one step of a run makes. */
    private static final int MOST_CALLS_A_STEP = 30;

    private final Due due = new Due();
    private final Random random = new Random(20261115L);
    private final TreeMap<String, Integer> seen = new TreeMap<>();
    private Plane x;
    private Reference y;
    private int run;
    private int reach;
    private int made;
    private final ArrayList<Integer> polygons = new ArrayList<>();
    private final ArrayList<Integer> rights = new ArrayList<>();

    public static void main(String[] args) {
        new ReferenceTest().all();
    }

    private void all() {
        int[] reaches = {3, 5, 8, 30, 10000};
        for (run = 0; run < RUNS; run++) {
            reach = reaches[run % reaches.length];
            made = 0;
            polygons.clear();
            rights.clear();
            x = new Plane(due);
            y = new Reference();
            while (x.callsLeft() >= MOST_CALLS_A_STEP) {
                step();
            }
            while (x.callsLeft() > 0) {
                inside();
            }
        }
        System.out.println(seen);
        requireSeen();
        due.end();
    }

    private void step() {
        // Every fourth run is mostly building, so that shapes and corners run out.
        if (random.nextInt(100) < (run % 4 == 0 ? 85 : 6)) {
            whole();
        } else {
            one();
        }
    }

    /** A test that never gets to an answer says nothing about it. */
    private void requireSeen() {
        String[] kinds = {"check 1", "check 0", "check -10", "check -12", "check BAD", "inside 0", "inside 1", "inside 2", "inside BAD",
            "meets 0", "meets 1", "meets BAD", "lower 1", "lower above 1", "area below 0", "area above 0", "area 0",
            "near a shape", "near BAD", "found throws", "found a shape", "corner FULL", "point FULL", "line FULL", "polygon FULL"};
        for (String kind : kinds) {
            due.is("seen " + kind, seen.getOrDefault(kind, 0) >= 10 ? 1 : 0, 1);
        }
    }

    private void same(String call, long got, long want) {
        due.is("run " + run + ": " + call, got, want);
    }

    private void saw(String kind) {
        seen.merge(kind, 1, Integer::sum);
    }

    private int place() {
        if (random.nextInt(150) == 0) {
            return WILD[random.nextInt(WILD.length)];
        }
        return random.nextInt(2 * reach + 1) - reach;
    }

    private int shape() {
        if (random.nextInt(50) == 0) {
            return WILD[random.nextInt(WILD.length)];
        }
        return random.nextInt(made + 1);
    }

    private int mostlyOf(ArrayList<Integer> numbers) {
        return numbers.isEmpty() || random.nextInt(10) == 0 ? shape() : numbers.get(random.nextInt(numbers.size()));
    }

    private void made(String kind, int got, int want) {
        same(kind, got, want);
        if (got >= 0) {
            made = got + 1;
        } else if (got == PlacePoints.FULL) {
            saw(kind + " FULL");
        }
    }

    /** A whole line or polygon at once: its corners round a middle, so that it is often right. */
    private void whole() {
        boolean isLine = random.nextInt(3) == 0;
        int number = isLine ? x.line() : x.polygon();
        made(isLine ? "line" : "polygon", number, y.make(isLine ? 'L' : 'G'));
        if (number < 0) {
            point();
            return;
        }
        boolean isLong = random.nextInt(4) == 0 || run % 8 == 0;
        int n = 2 + random.nextInt(isLong ? 24 : 5);
        double[] angles = random.doubles(n).sorted().toArray();
        boolean clock = random.nextBoolean();
        double size = reach * (0.1 + 0.9 * random.nextDouble());
        double midX = (reach - size) * (2 * random.nextDouble() - 1);
        double midY = (reach - size) * (2 * random.nextDouble() - 1);
        for (int i = 0; i < n; i++) {
            double angle = 2 * Math.PI * angles[clock ? n - 1 - i : i];
            double away = size * (0.3 + 0.7 * random.nextDouble());
            corner(number, (int) Math.round(midX + away * Math.cos(angle)), (int) Math.round(midY + away * Math.sin(angle)));
        }
        int answer = check(number);
        if (answer == 1) {
            rights.add(number);
        }
        if (!isLine && (answer == 1 || random.nextInt(4) == 0)) {
            polygons.add(number);
        }
    }

    private void point() {
        int u = place();
        int v = place();
        made("point", x.point(u, v), y.point(u, v));
    }

    private void corner(int number, int u, int v) {
        int got = x.corner(number, u, v);
        same("corner", got, y.corner(number, u, v));
        if (got == PlacePoints.FULL) {
            saw("corner FULL");
        }
    }

    private int check(int number) {
        int got = x.check(number);
        same("check", got, y.check(number));
        saw("check " + (got == PlacePoints.BAD ? "BAD" : got));
        return got;
    }

    private void one() {
        switch (random.nextInt(15)) {
            case 0 -> {
                if (random.nextBoolean()) {
                    point();
                }
            }
            case 1 -> {
                if (random.nextInt(5) == 0) {
                    made("line", x.line(), y.make('L'));
                }
            }
            case 2 -> {
                if (random.nextInt(5) == 0) {
                    made("polygon", x.polygon(), y.make('G'));
                }
            }
            case 3 -> {
                if (random.nextInt(3) == 0) {
                    corner(shape(), place(), place());
                }
            }
            case 4 -> {
                int number = shape();
                if (random.nextInt(8) == 0) {
                    same("remove", x.remove(number), y.remove(number));
                }
            }
            case 5 -> check(shape());
            case 6, 7 -> inside();
            case 8, 9 -> pair();
            case 10, 11 -> near();
            case 12 -> area();
            case 13 -> boxed();
            default -> same("shapes", x.shapes(), y.shapes());
        }
    }

    private void inside() {
        int u = place();
        int v = place();
        int number = mostlyOf(polygons);
        int got = x.inside(u, v, number);
        same("inside", got, y.inside(u, v, number));
        saw("inside " + (got == PlacePoints.BAD ? "BAD" : got));
    }

    private void pair() {
        int a = mostlyOf(polygons);
        int b = random.nextBoolean() ? mostlyOf(rights) : shape();
        int got = x.meets(a, b);
        same("meets", got, y.meets(a, b));
        saw("meets " + (got == PlacePoints.BAD ? "BAD" : got));
        same("square upper", x.square(a, b, 0), y.square(a, b, 0));
        long lower = x.square(a, b, 1);
        same("square lower", lower, y.square(a, b, 1));
        saw("lower " + (lower > 1 ? "above 1" : lower));
    }

    private void near() {
        int u = place();
        int v = place();
        int k = random.nextInt(20) == 0 ? WILD[random.nextInt(WILD.length)] : random.nextInt(made + 1);
        int got = x.near(u, v, k);
        same("near", got, y.near(u, v, k));
        saw(got == PlacePoints.BAD ? "near BAD" : "near a shape");
    }

    private void area() {
        int number = mostlyOf(polygons);
        long got = x.area(number);
        same("area", got, y.area(number));
        saw("area " + (got < 0 ? "below 0" : got > 0 ? "above 0" : "0"));
    }

    private void boxed() {
        int[] us = {place(), place()};
        int[] vs = {place(), place()};
        if (random.nextInt(6) != 0) {
            Arrays.sort(us);
            Arrays.sort(vs);
        }
        int count = x.boxed(us[0], vs[0], us[1], vs[1]);
        same("boxed", count, y.boxed(us[0], vs[0], us[1], vs[1]));
        for (int i : new int[] {0, count / 2, count - 1, count, -1, 59, 60, WILD[random.nextInt(WILD.length)]}) {
            long got = x.found(i);
            same("found", got, y.foundOr(i, Due.THROWS));
            saw(got == Due.THROWS ? "found throws" : "found a shape");
        }
    }
}
