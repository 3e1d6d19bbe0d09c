/**
 * A PlacePoints whose calls are counted, since what an object answers after its 512th call is free:
 * a test that asks for more is itself at fault, and ends.
 */
final class Plane {
    static final int MOST_CALLS = 512;

    private final PlacePoints x = new PlacePoints();
    private final Due due;
    private int calls = 0;

    Plane(Due due) {
        this.due = due;
    }

    int callsLeft() {
        return MOST_CALLS - calls;
    }

    int point(int u, int v) {
        return counted().point(u, v);
    }

    int line() {
        return counted().line();
    }

    int polygon() {
        return counted().polygon();
    }

    int corner(int shape, int u, int v) {
        return counted().corner(shape, u, v);
    }

    int remove(int shape) {
        return counted().remove(shape);
    }

    int check(int shape) {
        return counted().check(shape);
    }

    int inside(int u, int v, int polygon) {
        return counted().inside(u, v, polygon);
    }

    int meets(int a, int b) {
        return counted().meets(a, b);
    }

    long square(int a, int b, int part) {
        return counted().square(a, b, part);
    }

    int near(int u, int v, int k) {
        return counted().near(u, v, k);
    }

    long area(int shape) {
        return counted().area(shape);
    }

    int boxed(int u, int v, int w, int z) {
        return counted().boxed(u, v, w, z);
    }

    /** The answer of found, or THROWS for the very exception that the document names. */
    long found(int i) {
        PlacePoints asked = counted();
        try {
            return asked.found(i);
        } catch (ArrayIndexOutOfBoundsException e) {
            if (e.getClass() != ArrayIndexOutOfBoundsException.class) {
                throw e;
            }
            return Due.THROWS;
        }
    }

    int shapes() {
        return counted().shapes();
    }

    /** A line of the corners x, y, x, y, ..: its number. */
    int lineOf(int... corners) {
        return grow(line(), corners);
    }

    /** A polygon of the corners x, y, x, y, ..: its number. */
    int polygonOf(int... corners) {
        return grow(polygon(), corners);
    }

    /** Gives an empty line or polygon these corners: its number. */
    int grow(int shape, int... corners) {
        for (int i = 0; i < corners.length; i += 2) {
            due.is("corner(" + shape + ", " + corners[i] + ", " + corners[i + 1] + ")", corner(shape, corners[i], corners[i + 1]), i / 2 + 1);
        }
        return shape;
    }

    /** Both numbers of a square, both ways round, and what meets answers by them. */
    void squareIs(int a, int b, long upper, long lower) {
        due.is("square(" + a + ", " + b + ", 0)", square(a, b, 0), upper);
        due.is("square(" + a + ", " + b + ", 1)", square(a, b, 1), lower);
        due.is("square(" + b + ", " + a + ", 0)", square(b, a, 0), upper);
        due.is("square(" + b + ", " + a + ", 1)", square(b, a, 1), lower);
        due.is("meets(" + a + ", " + b + ")", meets(a, b), upper == 0 ? 1 : 0);
        due.is("meets(" + b + ", " + a + ")", meets(b, a), upper == 0 ? 1 : 0);
    }

    private PlacePoints counted() {
        calls++;
        if (calls > MOST_CALLS) {
            throw new IllegalStateException("the test asks an object for more than " + MOST_CALLS + " calls");
        }
        return x;
    }
}
