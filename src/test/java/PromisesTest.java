/** A method or more for each promise of the document: ordinary inputs and wrong ones; BoundariesTest has the edges, sentence by sentence. */
public final class PromisesTest {
    private static final int BAD = PlacePoints.BAD;
    private static final int FULL = PlacePoints.FULL;
    private static final int LEAST = Integer.MIN_VALUE;
    private static final int MOST = Integer.MAX_VALUE;
    private static final Due due = new Due();

    public static void main(String[] args) {
        promise1New();
        promise2Point();
        promise2PointWithoutRoom();
        promise3Line();
        promise4Polygon();
        promise5Corner();
        promise5CornerWithoutRoom();
        promise6Remove();
        promise7CheckLines();
        promise7CheckPolygons();
        promise8Inside();
        promise8InsideAtCornersOnTheRay();
        promise9Meets();
        promise10Square();
        promise10SquareAtTheEnds();
        promise11Near();
        promise11NearTellsCloseFractionsApart();
        promise12Area();
        promise13Boxed();
        promise14Found();
        promise15Shapes();
        due.end();
    }

    private static void promise1New() {
        Plane x = new Plane(due);
        due.is("shapes of a new one", x.shapes(), 0);
        due.is("check of a new one", x.check(0), BAD);
        due.is("near of a new one", x.near(0, 0, 0), BAD);
        due.is("boxed of a new one", x.boxed(LEAST, LEAST, MOST, MOST), 0);
        due.is("first number", x.line(), 0);
        Plane other = new Plane(due);
        due.is("shapes of another new one", other.shapes(), 0);
        due.is("first number of another", other.polygon(), 0);
    }

    private static void promise2Point() {
        Plane x = new Plane(due);
        due.is("point", x.point(10000, -10000), 0);
        due.is("point", x.point(-10000, 10000), 1);
        due.is("point on a point", x.point(-10000, 10000), 2);
        int[][] noPlaces = {{10001, 0}, {-10001, 0}, {0, 10001}, {0, -10001}, {MOST, 0}, {LEAST, 0}, {0, MOST}, {0, LEAST}};
        for (int[] at : noPlaces) {
            due.is("point(" + at[0] + ", " + at[1] + ")", x.point(at[0], at[1]), BAD);
        }
        due.is("no place makes no shape", x.shapes(), 3);
        due.is("the number after no places", x.point(0, 0), 3);
        due.is("a point is right", x.check(3), 1);
    }

    private static void promise2PointWithoutRoom() {
        Plane x = new Plane(due);
        for (int i = 0; i < 60; i++) {
            due.is("point " + i, x.point(i, i), i);
        }
        due.is("point 60", x.point(0, 0), FULL);
        due.is("no place comes before no room", x.point(0, 10001), BAD);
        due.is("remove", x.remove(5), 1);
        due.is("a number is not used again", x.point(0, 0), FULL);
        due.is("shapes", x.shapes(), 59);
    }

    private static void promise3Line() {
        Plane x = new Plane(due);
        for (int i = 0; i < 60; i++) {
            due.is("line " + i, x.line(), i);
            due.is("a line without corners", x.check(i), 0);
        }
        due.is("line 60", x.line(), FULL);
        due.is("remove", x.remove(0), 1);
        due.is("line 60 after one went", x.line(), FULL);
        due.is("corner of a line", x.corner(1, 0, 0), 1);
    }

    private static void promise4Polygon() {
        Plane x = new Plane(due);
        for (int i = 0; i < 60; i++) {
            due.is("polygon " + i, x.polygon(), i);
            due.is("a polygon without corners", x.check(i), 0);
        }
        due.is("polygon 60", x.polygon(), FULL);
        due.is("remove", x.remove(59), 1);
        due.is("polygon 60 after one went", x.polygon(), FULL);
        due.is("corner of a polygon", x.corner(1, 0, 0), 1);
    }

    private static void promise5Corner() {
        Plane x = new Plane(due);
        x.point(0, 0);
        x.line();
        x.polygon();
        due.is("corner of a point", x.corner(0, 1, 1), BAD);
        due.is("corner of none", x.corner(3, 1, 1), BAD);
        due.is("corner of none", x.corner(-1, 1, 1), BAD);
        due.is("corner of none", x.corner(LEAST, 1, 1), BAD);
        due.is("corner of none", x.corner(MOST, 1, 1), BAD);
        due.is("corner at no place", x.corner(1, 10001, 0), BAD);
        due.is("corner at no place", x.corner(1, 0, -10001), BAD);
        due.is("corner at no place", x.corner(2, LEAST, MOST), BAD);
        for (int i = 0; i < 24; i++) {
            due.is("corner " + i, x.corner(1, i, 10000), i + 1);
            due.is("corner " + i, x.corner(2, i, -10000), i + 1);
        }
        due.is("corner 24 of a line", x.corner(1, 0, 0), FULL);
        due.is("corner 24 of a polygon", x.corner(2, 0, 0), FULL);
        due.is("no place comes before no room", x.corner(1, 10001, 0), BAD);
        due.is("the line stays right", x.check(1), 1);
        x.remove(1);
        due.is("corner of one that went", x.corner(1, 0, 0), BAD);
    }

    private static void promise5CornerWithoutRoom() {
        Plane x = new Plane(due);
        for (int i = 0; i < 16; i++) {
            x.line();
            for (int k = 0; k < 24; k++) {
                due.is("corner " + k + " of " + i, x.corner(i, k, i), k + 1);
            }
        }
        for (int i = 16; i < 31; i++) {
            due.is("point with room", x.point(0, 0), i);
        }
        x.remove(0);
        due.is("line 31 needs no room", x.line(), 31);
        due.is("corner 400", x.corner(31, 0, 0), 1);
        due.is("corner 401, those that went too", x.corner(31, 1, 1), FULL);
        due.is("point without room", x.point(1, 1), FULL);
        due.is("a point without room is no shape", x.shapes(), 31);
        due.is("no place comes before no room", x.point(-10001, 1), BAD);
        due.is("no shape comes before no room", x.corner(0, 1, 1), BAD);
        due.is("no place comes before no room", x.corner(31, 1, 10001), BAD);
        due.is("polygon 32 needs no room", x.polygon(), 32);
    }

    private static void promise6Remove() {
        Plane x = new Plane(due);
        x.point(1, 1);
        x.line();
        x.polygonOf(0, 0, 2, 0, 0, 2);
        due.is("remove none", x.remove(3), BAD);
        due.is("remove none", x.remove(-1), BAD);
        due.is("remove none", x.remove(MOST), BAD);
        due.is("remove none", x.remove(LEAST), BAD);
        due.is("remove one without corners", x.remove(1), 1);
        due.is("remove again", x.remove(1), BAD);
        due.is("remove a polygon", x.remove(2), 1);
        due.is("check", x.check(2), BAD);
        due.is("inside", x.inside(1, 1, 2), BAD);
        due.is("meets", x.meets(0, 2), BAD);
        due.is("square", x.square(2, 0, 0), BAD);
        due.is("area", x.area(2), 0);
        due.is("near", x.near(0, 0, 1), BAD);
        due.is("boxed", x.boxed(0, 0, 2, 2), 1);
        due.is("remove a point", x.remove(0), 1);
        due.is("near", x.near(0, 0, 0), BAD);
        due.is("the next number", x.line(), 3);
    }

    private static void promise7CheckLines() {
        Plane x = new Plane(due);
        due.is("no corner", x.check(x.lineOf()), 0);
        due.is("one corner", x.check(x.lineOf(1, 1)), 0);
        due.is("two corners", x.check(x.lineOf(1, 1, 1, 2)), 1);
        due.is("two corners at one place", x.check(x.lineOf(1, 1, 1, 1)), -10);
        due.is("a line may cross itself", x.check(x.lineOf(0, 0, 4, 4, 4, 0, 0, 4)), 1);
        due.is("a line may run back", x.check(x.lineOf(0, 0, 4, 0, 0, 0)), 1);
        due.is("side 2 of length 0", x.check(x.lineOf(0, 0, 1, 0, 2, 0, 2, 0, 2, 0)), -12);
        due.is("first and last the same", x.check(x.lineOf(0, 0, 1, 0, 1, 1, 0, 0)), 1);
        due.is("none", x.check(8), BAD);
        due.is("none", x.check(-1), BAD);
        due.is("none", x.check(LEAST), BAD);
        due.is("none", x.check(MOST), BAD);
    }

    private static void promise7CheckPolygons() {
        Plane x = new Plane(due);
        due.is("no corner", x.check(x.polygonOf()), 0);
        due.is("two corners", x.check(x.polygonOf(0, 0, 0, 0)), 0);
        due.is("with the clock", x.check(x.polygonOf(0, 0, 0, 4, 4, 0)), 1);
        due.is("flat", x.check(x.polygonOf(0, 0, 4, 0, 2, 0)), -10);
        due.is("flat, upright", x.check(x.polygonOf(0, 0, 0, 4, 0, 2)), -10);
        due.is("sides 0 and 1 fold, upright", x.check(x.polygonOf(0, 2, 0, 0, 0, 5, -3, 3)), -10);
        due.is("three corners, side 1 of length 0", x.check(x.polygonOf(0, 0, 4, 0, 4, 0)), -10);
        due.is("three corners, side 2 of length 0", x.check(x.polygonOf(0, 0, 4, 0, 0, 0)), -10);
        due.is("three corners at one place", x.check(x.polygonOf(5, 5, 5, 5, 5, 5)), -10);
        due.is("a corner on a straight side", x.check(x.polygonOf(0, 0, 2, 0, 4, 0, 0, 4)), 1);
        due.is("a corner on a straight last side", x.check(x.polygonOf(1, 0, 4, 0, 0, 4, 0, 0)), 1);
        due.is("sides 1 and 2 fold", x.check(x.polygonOf(0, 0, 4, 0, 4, 6, 4, 3, 0, 3)), -11);
        due.is("the last and the first fold", x.check(x.polygonOf(0, 0, 6, 0, 6, 4, 3, 4, 3, 0)), -10);
        due.is("sides 2 and 4 cross", x.check(x.polygonOf(0, 0, 9, 0, 9, 2, 4, 8, 4, 2, 9, 8, 0, 8)), -12);
        due.is("sides 1 and 3 touch in corners", x.check(x.polygonOf(0, 0, 4, 0, 4, 4, 6, 4, 4, 0, 0, -4)), -10);
        due.is("a corner touches side 1", x.check(x.polygonOf(0, 0, 8, 0, 8, 8, 6, 8, 8, 4, 4, 8, 0, 8)), -11);
        due.is("the least side of several", x.check(x.polygonOf(0, 0, 9, 0, 9, 9, 9, 9, 0, 9)), -11);
        int grown = x.polygonOf(0, 0, 4, 4, 4, 0, 0, 4);
        due.is("crossed", x.check(grown), -10);
        due.is("corner", x.corner(grown, -1, 1), 5);
        due.is("still crossed", x.check(grown), -10);
        int mended = x.polygonOf(0, 0, 4, 0, 2, 0);
        due.is("still folded", x.check(mended), -10);
        int spoilt = x.polygonOf(0, 0, 4, 0, 4, 4);
        due.is("right", x.check(spoilt), 1);
        due.is("corner", x.corner(spoilt, 2, -1), 4);
        due.is("wrong after a corner more", x.check(spoilt), -10);
        due.is("corner", x.corner(spoilt, -3, 1), 5);
        int closed = x.polygonOf(0, 0, 6, 0, 0, 6, 6, 6);
        due.is("sides 1 and 3 cross", x.check(closed), -11);
        due.is("corner", x.corner(closed, 6, 9), 5);
        due.is("corner", x.corner(closed, -3, 9), 6);
        due.is("right after two corners more", x.check(closed), 1);
        due.is("far corners", x.check(x.polygonOf(-10000, -10000, 10000, 10000, 10000, 9999, -9999, -10000)), 1);
    }

    private static void promise8Inside() {
        Plane x = new Plane(due);
        int comb = x.polygonOf(0, 0, 8, 0, 8, 6, 6, 6, 6, 2, 2, 2, 2, 6, 0, 6);
        int clock = x.polygonOf(-10000, -10000, -10000, 10000, 10000, 10000, 10000, -10000);
        int sliver = x.polygonOf(-10000, -10000, 10000, 9999, 10000, 10000);
        int line = x.lineOf(0, 0, 8, 0);
        int at = x.point(1, 1);
        int crossed = x.polygonOf(0, 0, 4, 4, 4, 0, 0, 4);
        int[][] places = {{1, 1, 1}, {1, 5, 1}, {4, 1, 1}, {4, 4, 0}, {4, 2, 2}, {0, 0, 2}, {8, 3, 2}, {7, 6, 2},
            {4, 6, 0}, {9, 0, 0}, {-1, 0, 0}, {-1, 6, 0}, {-1, 2, 0}, {4, 7, 0}, {4, -1, 0}, {6, 2, 2}, {7, 2, 1}, {2, 3, 2}};
        for (int[] place : places) {
            due.is("inside(" + place[0] + ", " + place[1] + ")", x.inside(place[0], place[1], comb), place[2]);
        }
        due.is("far corner", x.inside(10000, -10000, clock), 2);
        due.is("just within", x.inside(9999, -9999, clock), 1);
        due.is("in the sliver, on its side", x.inside(0, 0, sliver), 2);
        due.is("in the sliver, below", x.inside(0, -1, sliver), 0);
        due.is("above the sliver", x.inside(-1, 0, sliver), 0);
        due.is("at the sliver's end", x.inside(10000, 9999, sliver), 2);
        due.is("no place", x.inside(10001, 0, clock), BAD);
        due.is("no place", x.inside(0, -10001, clock), BAD);
        due.is("no place", x.inside(LEAST, MOST, clock), BAD);
        due.is("a line", x.inside(1, 0, line), BAD);
        due.is("a point", x.inside(1, 1, at), BAD);
        due.is("no right polygon", x.inside(1, 1, crossed), BAD);
        due.is("none", x.inside(1, 1, 6), BAD);
        due.is("none", x.inside(1, 1, -1), BAD);
        due.is("none", x.inside(1, 1, LEAST), BAD);
    }

    private static void promise8InsideAtCornersOnTheRay() {
        Plane x = new Plane(due);
        int diamond = x.polygonOf(4, 0, 8, 4, 4, 8, 0, 4);
        due.is("level with a corner, within", x.inside(4, 4, diamond), 1);
        due.is("level with a corner, before", x.inside(-2, 4, diamond), 0);
        due.is("level with the lowest", x.inside(0, 0, diamond), 0);
        due.is("level with the highest", x.inside(0, 8, diamond), 0);
        int peak = x.polygonOf(0, 0, 9, 0, 9, 9, 6, 4, 3, 9, 0, 4);
        due.is("level with two low corners", x.inside(1, 4, peak), 1);
        due.is("between them", x.inside(5, 4, peak), 1);
        due.is("behind them", x.inside(8, 4, peak), 1);
        due.is("level with two peaks", x.inside(-5, 9, peak), 0);
        int step = x.polygonOf(0, 0, 9, 0, 9, 4, 5, 4, 5, 8, 0, 8);
        due.is("level with a flat side, within", x.inside(2, 4, step), 1);
        due.is("level with a flat side, before", x.inside(-2, 4, step), 0);
        due.is("on the flat side", x.inside(7, 4, step), 2);
        due.is("behind the flat side", x.inside(10, 4, step), 0);
    }

    private static void promise9Meets() {
        Plane x = new Plane(due);
        int big = x.polygonOf(0, 0, 20, 0, 20, 20, 0, 20);
        int small = x.polygonOf(5, 5, 5, 8, 8, 8);
        int within = x.lineOf(1, 1, 3, 2, 1, 3);
        int apart = x.lineOf(21, 0, 21, 20);
        int through = x.lineOf(-5, 10, 25, 11);
        int at = x.point(19, 19);
        int wrong = x.lineOf(1, 1);
        due.is("a polygon in a polygon", x.meets(small, big), 1);
        due.is("a polygon round a polygon", x.meets(big, small), 1);
        due.is("a line in a polygon", x.meets(within, big), 1);
        due.is("a polygon round a line", x.meets(big, within), 1);
        due.is("a point in a polygon", x.meets(at, big), 1);
        due.is("a polygon round a point", x.meets(big, at), 1);
        due.is("a line apart", x.meets(apart, big), 0);
        due.is("a line through two", x.meets(through, big), 1);
        due.is("a line through one", x.meets(through, apart), 1);
        due.is("a line past", x.meets(through, small), 0);
        due.is("polygon and line apart", x.meets(small, within), 0);
        for (int i = 0; i < wrong; i++) {
            due.is("a shape meets itself", x.meets(i, i), 1);
        }
        due.is("no right line", x.meets(wrong, big), BAD);
        due.is("no right line", x.meets(big, wrong), BAD);
        due.is("none", x.meets(big, 7), BAD);
        due.is("none", x.meets(-1, big), BAD);
        due.is("none", x.meets(MOST, LEAST), BAD);
        due.is("points at one place", x.meets(at, x.point(19, 19)), 1);
        due.is("points apart", x.meets(at, x.point(19, 18)), 0);
    }

    private static void promise10Square() {
        Plane x = new Plane(due);
        int at = x.point(3, 0);
        int line = x.lineOf(0, 0, 4, 4);
        x.squareIs(at, line, 9, 2);
        x.squareIs(at, x.point(0, 4), 25, 1);
        x.squareIs(at, at, 0, 1);
        x.squareIs(line, x.lineOf(0, 4, 4, 0), 0, 1);
        x.squareIs(line, x.lineOf(1, 1, 2, 2), 0, 1);
        x.squareIs(line, x.lineOf(5, 5, 9, 9), 2, 1);
        x.squareIs(line, x.lineOf(9, 9, 5, 6), 5, 1);
        x.squareIs(line, x.lineOf(4, 4, 9, 0), 0, 1);
        x.squareIs(line, x.lineOf(2, 0, 6, 4), 2, 1);
        x.squareIs(line, x.lineOf(0, 2, 1, 2), 1, 2);
        int ring = x.polygonOf(-9, -9, 9, -9, 9, 9, -9, 9);
        x.squareIs(ring, line, 0, 1);
        x.squareIs(ring, at, 0, 1);
        x.squareIs(ring, x.point(12, 13), 25, 1);
        x.squareIs(ring, x.polygonOf(11, 0, 15, -3, 15, 3), 4, 1);
        x.squareIs(ring, x.polygonOf(0, 0, 1, 0, 0, 1), 0, 1);
        x.squareIs(ring, x.polygonOf(9, 9, 10, 9, 10, 10), 0, 1);
        int hook = x.polygonOf(20, 0, 30, 0, 30, 10, 20, 10, 20, 8, 28, 8, 28, 2, 20, 2);
        x.squareIs(hook, x.point(25, 5), 9, 1);
        x.squareIs(hook, x.lineOf(22, 5, 27, 6), 1, 1);
        due.is("another part than 0 is the lower number", x.square(at, line, 2), 2);
        due.is("another part than 0 is the lower number", x.square(at, line, -1), 2);
        int wrong = x.polygon();
        due.is("no right polygon", x.square(at, wrong, 0), BAD);
        due.is("no right polygon", x.square(wrong, at, 1), BAD);
        due.is("none", x.square(at, wrong + 1, 0), BAD);
        due.is("none", x.square(-1, at, 1), BAD);
        due.is("none", x.square(LEAST, MOST, 0), BAD);
    }

    private static void promise10SquareAtTheEnds() {
        Plane x = new Plane(due);
        int low = x.point(-10000, -10000);
        x.squareIs(low, x.point(10000, 10000), 800000000L, 1);
        int across = x.lineOf(-10000, 10000, 10000, -9999);
        // The height over a side: twice the triangle, squared, over the side, squared.
        x.squareIs(low, across, 160000000000000000L, 799960001L);
        int down = x.lineOf(-10000, 10000, 10000, -10000);
        x.squareIs(low, down, 200000000L, 1);
        int steep = x.lineOf(-10000, -9999, 9999, 10000);
        x.squareIs(low, steep, 1, 1);
        x.squareIs(x.point(-9999, -9999), steep, 1, 2);
    }

    private static void promise11Near() {
        Plane x = new Plane(due);
        x.line();
        x.point(5, 0);
        x.polygonOf(-10, -10, 10, -10, 10, 10, -10, 10);
        x.point(0, 5);
        x.lineOf(4, 4, 4, -4);
        x.point(-3, -4);
        x.polygonOf(0, 0, 4, 4, 4, 0, 0, 4);
        int[] order = {2, 4, 1, 3, 5};
        for (int k = 0; k < order.length; k++) {
            due.is("near(0, 0, " + k + ")", x.near(0, 0, k), order[k]);
        }
        due.is("behind the last", x.near(0, 0, 5), BAD);
        due.is("before the first", x.near(0, 0, -1), BAD);
        due.is("no number", x.near(0, 0, LEAST), BAD);
        due.is("no number", x.near(0, 0, MOST), BAD);
        due.is("no place", x.near(10001, 0, 0), BAD);
        due.is("no place", x.near(0, -10001, 0), BAD);
        due.is("no place", x.near(MOST, LEAST, 0), BAD);
        due.is("from afar", x.near(-10000, -10000, 0), 2);
        due.is("from afar", x.near(-10000, -10000, 1), 5);
        x.remove(2);
        due.is("the first after one went", x.near(0, 0, 0), 4);
        due.is("the last after one went", x.near(0, 0, 4), BAD);
        x.grow(0, 0, 0, 0, 1);
        due.is("the first after one came right", x.near(0, 0, 0), 0);
        due.is("the second after one came right", x.near(0, 0, 1), 4);
    }

    /** Products of such numbers pass the end of a long, and the squares have the same whole part. */
    private static void promise11NearTellsCloseFractionsApart() {
        Plane x = new Plane(due);
        x.lineOf(-7002, 10000, 10000, -7000);
        x.lineOf(-7001, 10000, 10000, -7001);
        int low = x.point(-10000, -10000);
        x.squareIs(0, low, 38221423009000000L, 144517001L);
        x.squareIs(1, low, 528954001L, 2);
        due.is("near", x.near(-10000, -10000, 0), low);
        due.is("near", x.near(-10000, -10000, 1), 1);
        due.is("near", x.near(-10000, -10000, 2), 0);
        Plane y = new Plane(due);
        y.lineOf(-10000, 9998, 10000, -9997);
        y.lineOf(-10000, 9999, 10000, -9998);
        y.lineOf(-9999, 10000, 9998, -10000);
        int zero = y.point(0, 0);
        y.squareIs(0, zero, 4000000L, 31992001L);
        y.squareIs(1, zero, 100000000L, 799880009L);
        y.squareIs(2, zero, 100000000L, 799880009L);
        due.is("near", y.near(0, 0, 0), zero);
        due.is("near, the lesser number of the same square", y.near(0, 0, 1), 1);
        due.is("near", y.near(0, 0, 2), 2);
        due.is("near", y.near(0, 0, 3), 0);
    }

    private static void promise12Area() {
        Plane x = new Plane(due);
        due.is("against the clock", x.area(x.polygonOf(0, 0, 3, 0, 0, 1)), 3);
        due.is("with the clock", x.area(x.polygonOf(0, 0, 0, 1, 3, 0)), -3);
        due.is("the whole plane", x.area(x.polygonOf(-10000, -10000, 10000, -10000, 10000, 10000, -10000, 10000)), 800000000L);
        due.is("the whole plane", x.area(x.polygonOf(-10000, -10000, -10000, 10000, 10000, 10000, 10000, -10000)), -800000000L);
        due.is("far from the middle", x.area(x.polygonOf(9999, 9999, 10000, 9999, 10000, 10000)), 1);
        due.is("hollow", x.area(x.polygonOf(0, 0, 8, 0, 8, 6, 6, 6, 6, 2, 2, 2, 2, 6, 0, 6)), 64);
        due.is("no right polygon", x.area(x.polygonOf(0, 0, 6, 4, 6, 0, 0, 5)), 0);
        due.is("a line", x.area(x.lineOf(0, 0, 3, 0, 0, 1)), 0);
        due.is("a point", x.area(x.point(3, 4)), 0);
        due.is("none", x.area(9), 0);
        due.is("none", x.area(-1), 0);
        due.is("none", x.area(LEAST), 0);
        due.is("none", x.area(MOST), 0);
        x.remove(0);
        due.is("one that went", x.area(0), 0);
    }

    private static void promise13Boxed() {
        Plane x = new Plane(due);
        x.point(5, 5);
        x.lineOf(0, 0, 10, 10);
        x.polygonOf(20, 0, 30, 0, 20, 10);
        x.lineOf(1, 1);
        x.polygonOf(0, 0, 4, 4, 4, 0, 0, 4);
        due.is("all", x.boxed(LEAST, LEAST, MOST, MOST), 3);
        due.is("one place", x.boxed(5, 5, 5, 5), 2);
        due.is("in the box of a line, off the line", x.boxed(1, 9, 2, 9), 1);
        due.is("in the box of a polygon, out of the polygon", x.boxed(29, 9, 29, 9), 1);
        due.is("the edge of a box", x.boxed(30, 10, 40, 40), 1);
        due.is("behind the edge", x.boxed(31, 10, 40, 40), 0);
        due.is("above the edge", x.boxed(30, 11, 40, 40), 0);
        due.is("the lower edge", x.boxed(-5, -5, 20, 0), 2);
        due.is("before the edge", x.boxed(11, -5, 19, 50), 0);
        due.is("below the edge", x.boxed(-5, -5, 50, -1), 0);
        due.is("x above u", x.boxed(6, 5, 5, 5), 0);
        due.is("y above v", x.boxed(5, 6, 5, 5), 0);
        due.is("both above", x.boxed(MOST, MOST, LEAST, LEAST), 0);
        due.is("beyond all places", x.boxed(10001, 10001, MOST, MOST), 0);
        due.is("corner", x.corner(1, 25, -3), 3);
        due.is("a box that grew", x.boxed(25, -3, 25, -3), 1);
        x.remove(2);
        due.is("after one went", x.boxed(20, 0, 20, 0), 1);
        x.remove(1);
        due.is("after two went", x.boxed(20, 0, 20, 0), 0);
    }

    private static void promise14Found() {
        Plane x = new Plane(due);
        due.is("found(0)", x.found(0), Due.THROWS);
        x.point(1, 1);
        x.line();
        x.point(9, 9);
        x.point(2, 2);
        due.is("found(0)", x.found(0), Due.THROWS);
        due.is("boxed", x.boxed(0, 0, 5, 5), 2);
        due.is("found(0)", x.found(0), 0);
        due.is("found(1)", x.found(1), 3);
        due.is("found(2)", x.found(2), Due.THROWS);
        due.is("found(-1)", x.found(-1), Due.THROWS);
        due.is("found(LEAST)", x.found(LEAST), Due.THROWS);
        due.is("found(MOST)", x.found(MOST), Due.THROWS);
        x.remove(3);
        x.point(3, 3);
        due.is("found(1)", x.found(1), 3);
        due.is("found(2)", x.found(2), Due.THROWS);
        due.is("boxed", x.boxed(8, 8, 9, 9), 1);
        due.is("found(0)", x.found(0), 2);
        due.is("found(1)", x.found(1), Due.THROWS);
        due.is("boxed the wrong way round", x.boxed(9, 9, 8, 8), 0);
        due.is("found(0)", x.found(0), Due.THROWS);
        for (int i = 5; i < 60; i++) {
            x.point(0, 0);
        }
        due.is("boxed", x.boxed(0, 0, 9, 9), 58);
        due.is("found(57)", x.found(57), 59);
        due.is("found(58)", x.found(58), Due.THROWS);
        due.is("found(59)", x.found(59), Due.THROWS);
        due.is("found(60)", x.found(60), Due.THROWS);
    }

    private static void promise15Shapes() {
        Plane x = new Plane(due);
        x.point(0, 0);
        x.line();
        x.polygon();
        due.is("shapes, right or not", x.shapes(), 3);
        x.corner(1, 0, 0);
        due.is("a corner is no shape", x.shapes(), 3);
        x.remove(1);
        due.is("one went", x.shapes(), 2);
        x.remove(1);
        due.is("it went once only", x.shapes(), 2);
        x.remove(0);
        x.remove(2);
        due.is("all went", x.shapes(), 0);
        due.is("a number is not used again", x.line(), 3);
        due.is("one came", x.shapes(), 1);
    }
}
