/** The sentences under "What it is" and "Terms" that name a boundary case: a method for each. */
public final class TermsTest {
    private static final int BAD = PlacePoints.BAD;
    private static final int FULL = PlacePoints.FULL;
    private static final int LEAST = Integer.MIN_VALUE;
    private static final int MOST = Integer.MAX_VALUE;
    private static final int[] ONE_TOO_FAR = {-10001, 10001, LEAST, MOST};
    private static final Due due = new Due();

    public static void main(String[] args) {
        due.sentence("An object is used for at most 512 calls after it has been made", TermsTest::calls);
        due.sentence("PLACES are (x, y), each -10000 .. 10000.", TermsTest::places);
        due.sentence("SHAPES, at most 60 in all", TermsTest::shapesInAll);
        due.sentence("are numbered from 0", TermsTest::numberedFromZero);
        due.sentence("(a number is not used again)", TermsTest::numberNotUsedAgain);
        due.sentence("a POINT has one CORNER", TermsTest::pointHasOneCorner);
        due.sentence("a LINE up to 24", TermsTest::lineHasUpTo24);
        due.sentence("a POLYGON up to 24", TermsTest::polygonHasUpTo24);
        due.sentence("all shapes together at most 400 corners", TermsTest::cornersTogether);
        due.sentence("those that went too", TermsTest::cornersThatWent);
        due.sentence("A line's SIDES are those from each corner to the next one", TermsTest::sidesOfLine);
        due.sentence("a polygon's likewise, and from its last one to its first one", TermsTest::sidesOfPolygon);
        due.sentence("side i begins at corner i", TermsTest::sideBeginsAtItsCorner);
        due.sentence("A shape is RIGHT when it is a point", TermsTest::rightPoint);
        due.sentence("a line with two corners at least", TermsTest::rightLineHasTwoCorners);
        due.sentence("each of which is another place than the one before", TermsTest::rightLineMovesOn);
        due.sentence("a polygon with three corners at least", TermsTest::rightPolygonHasThreeCorners);
        due.sentence("whose sides have no length 0", TermsTest::rightPolygonHasNoSideWithoutLength);
        due.sentence("of which no two have a place in common", TermsTest::rightPolygonSidesAreApart);
        due.sentence("but neighbours the corner between them", TermsTest::rightPolygonNeighbours);
        due.sentence("(sides are neighbours when they follow one another, the last and the first too)", TermsTest::lastAndFirstAreNeighbours);
        due.sentence("A right shape's PLACES are all real places of its point, its sides, or (polygon) its sides and all that these enclose.",
            TermsTest::placesOfShapes);
        due.sentence("The SQUARE of two right shapes is the square of the least distance of a place of one and a place of the other",
            TermsTest::squareIsTheLeast);
        due.sentence("it is a fraction, told in lowest terms (0 as 0 / 1)", TermsTest::squareInLowestTerms);
        due.sentence("The BOX of a right shape is that of the least and greatest x and y of its corners.", TermsTest::box);
        due.end();
    }

    /** 60 shapes, 400 corners, and the rest of the calls on the full plane. */
    private static void calls() {
        Plane x = new Plane(due);
        fillCorners(x);
        for (int i = x.shapes(); i < 60; i++) {
            due.is("line", x.line(), i);
        }
        due.is("point", x.point(0, 0), FULL);
        for (int i = 0; x.callsLeft() > 12; i++) {
            due.is("area", x.area(i % 16), 2 * 24 * 24);
        }
        due.is("call 501: corner", x.corner(59, 0, 0), FULL);
        due.is("call 502: polygon", x.polygon(), FULL);
        due.is("call 503: near", x.near(-10000, 0, 0), 0);
        due.is("call 504: inside", x.inside(1, 1, 0), 1);
        due.is("call 505: meets", x.meets(0, 1), 0);
        due.is("call 506: square", x.square(0, 2, 0), 1176 * 1176);
        due.is("call 507: check", x.check(15), 1);
        due.is("call 508: boxed", x.boxed(0, 0, 600, 0), 2);
        due.is("call 509: found", x.found(1), 1);
        due.is("call 510: found", x.found(2), Due.THROWS);
        due.is("call 511: remove", x.remove(15), 1);
        due.is("call 512: shapes", x.shapes(), 59);
        due.is("calls left", x.callsLeft(), 0);
    }

    private static void places() {
        Plane x = new Plane(due);
        int[] ends = {-10000, 10000};
        int line = x.line();
        int polygon = x.polygonOf(-10000, -10000, 10000, -10000, 10000, 10000, -10000, 10000);
        int corners = 0;
        int points = 0;
        for (int u : ends) {
            for (int v : ends) {
                due.is("point", x.point(u, v), 2 + points++);
                due.is("corner", x.corner(line, u, v), ++corners);
                due.is("inside", x.inside(u, v, polygon), 2);
                due.is("near", x.near(u, v, 0), x.check(line) == 1 ? line : polygon);
            }
        }
        for (int far : ONE_TOO_FAR) {
            for (int[] at : new int[][] {{far, 0}, {0, far}, {far, far}}) {
                due.is("point", x.point(at[0], at[1]), BAD);
                due.is("corner of a line", x.corner(line, at[0], at[1]), BAD);
                due.is("corner of a polygon", x.corner(polygon, at[0], at[1]), BAD);
                due.is("inside", x.inside(at[0], at[1], polygon), BAD);
                due.is("near", x.near(at[0], at[1], 0), BAD);
            }
        }
        due.is("corner after the refused", x.corner(line, 0, 0), corners + 1);
        due.is("corner after the refused", x.corner(polygon, -9999, 0), 5);
        due.is("point after the refused", x.point(0, 0), 2 + points);
    }

    private static void shapesInAll() {
        for (int last = 0; last < 3; last++) {
            Plane x = new Plane(due);
            for (int i = 0; i < 60; i++) {
                due.is("shape " + i, make(x, i + last), i);
            }
            for (int kind = 0; kind < 3; kind++) {
                due.is("shape 60 of kind " + kind, make(x, kind), FULL);
            }
            due.is("shapes", x.shapes(), 60);
            for (int i = 0; i < 60; i++) {
                due.is("remove " + i, x.remove(i), 1);
            }
            for (int kind = 0; kind < 3; kind++) {
                due.is("in all: shape 60 of kind " + kind + " when all went", make(x, kind), FULL);
            }
            due.is("shapes", x.shapes(), 0);
        }
    }

    private static int make(Plane x, int kind) {
        return kind % 3 == 0 ? x.point(kind, 0) : kind % 3 == 1 ? x.line() : x.polygon();
    }

    private static void numberedFromZero() {
        for (int kind = 0; kind < 3; kind++) {
            Plane x = new Plane(due);
            due.is("the first", make(x, kind), 0);
            due.is("the second", make(x, kind + 1), 1);
            due.is("the third", make(x, kind + 2), 2);
        }
    }

    private static void numberNotUsedAgain() {
        Plane x = new Plane(due);
        for (int i = 0; i < 30; i++) {
            due.is("the next number", make(x, i), i);
            due.is("remove the newest", x.remove(i), 1);
        }
        due.is("the next number", x.point(1, 1), 30);
        due.is("the next number", x.point(2, 2), 31);
        due.is("remove an older one", x.remove(30), 1);
        due.is("the next number", x.point(3, 3), 32);
        due.is("an older number stays away", x.check(30), BAD);
        due.is("an older number stays away", x.check(0), BAD);
    }

    private static void pointHasOneCorner() {
        Plane x = new Plane(due);
        int at = x.point(3, 4);
        int zero = x.point(0, 0);
        due.is("corner of a point", x.corner(at, 5, 5), BAD);
        x.squareIs(at, zero, 25, 1);
        due.is("boxed where the refused corner would be", x.boxed(5, 5, 5, 5), 0);
        due.is("check", x.check(at), 1);
        int[] lines = new int[17];
        for (int i = 0; i < 17; i++) {
            lines[i] = x.line();
        }
        for (int i = 0; i < 397; i++) {
            due.is("corner " + i, x.corner(lines[i / 24], i, 0), i % 24 + 1);
        }
        due.is("corner of a point, refused, takes no room", x.corner(at, 5, 5), BAD);
        due.is("a point takes the room of one corner", x.point(7, 7), 19);
        due.is("corner 400", x.corner(lines[16], 7, 7), FULL);
    }

    private static void lineHasUpTo24() {
        Plane x = new Plane(due);
        int line = x.line();
        for (int i = 0; i < 24; i++) {
            due.is("corner " + i, x.corner(line, i, 0), i + 1);
        }
        due.is("check", x.check(line), 1);
        due.is("near its last corner", x.meets(line, x.point(23, 0)), 1);
        due.is("corner 24", x.corner(line, 23, 0), FULL);
        due.is("corner 24", x.corner(line, 50, 50), FULL);
        due.is("the refused make it not wrong", x.check(line), 1);
        due.is("the refused are no part of its box", x.boxed(24, 0, 50, 50), 0);
        due.is("the refused are no part of it", x.meets(line, x.point(50, 50)), 0);
        due.is("corner of another one", x.corner(x.line(), 0, 0), 1);
    }

    private static void polygonHasUpTo24() {
        Plane x = new Plane(due);
        int polygon = x.polygon();
        for (int i = 0; i < 24; i++) {
            due.is("corner " + i, x.corner(polygon, i, i * i), i + 1);
        }
        due.is("check", x.check(polygon), 1);
        long area = x.area(polygon);
        // The triangles of corner 0 and side k, each of k * (k + 1), k from 1 to 22.
        due.is("area", area, 22 * 23 * 24 / 3);
        due.is("corner 24", x.corner(polygon, 0, 529), FULL);
        due.is("corner 24", x.corner(polygon, 23, 529), FULL);
        due.is("the refused make it not wrong", x.check(polygon), 1);
        due.is("the refused are no part of it", x.area(polygon), area);
        due.is("the refused are no part of it", x.inside(0, 529, polygon), 0);
        due.is("corner of another one", x.corner(x.polygon(), 0, 0), 1);
    }

    /** 16 squares of 24 corners and 16 points: 32 shapes, 400 corners. */
    private static void fillCorners(Plane x) {
        for (int i = 0; i < 16; i++) {
            x.polygonOf(squareOf24(i * 600, 0));
        }
        for (int i = 16; i < 32; i++) {
            due.is("point " + i, x.point(-i, 9000), i);
        }
    }

    /** A square of 24 units a side, a corner at each fourth unit, its lower left one first. */
    private static int[] squareOf24(int left, int low) {
        int[] corners = new int[48];
        for (int i = 0; i < 6; i++) {
            int[] four = {4 * i, 0, 24, 4 * i, 24 - 4 * i, 24, 0, 24 - 4 * i};
            for (int side = 0; side < 4; side++) {
                corners[2 * (6 * side + i)] = left + four[2 * side];
                corners[2 * (6 * side + i) + 1] = low + four[2 * side + 1];
            }
        }
        return corners;
    }

    private static void cornersTogether() {
        Plane x = new Plane(due);
        fillCorners(x);
        int line = x.line();
        int polygon = x.polygon();
        due.is("corner 400 of a line", x.corner(line, 0, 0), FULL);
        due.is("corner 400 of a polygon", x.corner(polygon, 0, 0), FULL);
        due.is("corner 400 by a point", x.point(0, 0), FULL);
        due.is("the refused line has no corner", x.check(line), 0);
        due.is("shapes", x.shapes(), 34);
        Plane y = new Plane(due);
        for (int i = 0; i < 16; i++) {
            y.polygonOf(squareOf24(i * 100, 0));
        }
        int last = y.line();
        for (int i = 0; i < 16; i++) {
            due.is("corner " + (384 + i), y.corner(last, i, i), i + 1);
        }
        due.is("corner 400", y.corner(last, 16, 16), FULL);
        due.is("corner 400 by a point", y.point(0, 0), FULL);
        due.is("the next number", y.line(), 17);
    }

    private static void cornersThatWent() {
        Plane x = new Plane(due);
        fillCorners(x);
        for (int i = 0; i < 32; i++) {
            due.is("remove", x.remove(i), 1);
        }
        due.is("point", x.point(0, 0), FULL);
        due.is("a line needs no corner", x.line(), 32);
        due.is("corner", x.corner(32, 0, 0), FULL);
        due.is("shapes", x.shapes(), 1);
    }

    private static void sidesOfLine() {
        Plane x = new Plane(due);
        int line = x.lineOf(0, 0, 8, 0, 8, 8, 0, 8);
        x.squareIs(line, x.point(4, 0), 0, 1);
        x.squareIs(line, x.point(8, 4), 0, 1);
        x.squareIs(line, x.point(4, 8), 0, 1);
        x.squareIs(line, x.point(0, 4), 16, 1);
        due.is("first and last corner the same", x.check(x.lineOf(0, 0, 4, 0, 0, 4, 0, 0)), 1);
    }

    private static void sidesOfPolygon() {
        Plane x = new Plane(due);
        int polygon = x.polygonOf(0, 0, 8, 0, 8, 8, 0, 8);
        due.is("on side 0", x.inside(4, 0, polygon), 2);
        due.is("on side 1", x.inside(8, 4, polygon), 2);
        due.is("on side 2", x.inside(4, 8, polygon), 2);
        due.is("on the last side", x.inside(0, 4, polygon), 2);
        x.squareIs(polygon, x.point(-3, 4), 9, 1);
        due.is("the last side of length 0", x.check(x.polygonOf(0, 0, 4, 0, 0, 4, 0, 0)), -10);
        due.is("the last side crosses side 1", x.check(x.polygonOf(0, 0, 6, 0, 0, 6, 6, 6)), -11);
    }

    private static void sideBeginsAtItsCorner() {
        for (int side = 0; side < 23; side++) {
            Plane x = new Plane(due);
            int line = x.line();
            for (int i = 0; i < 24; i++) {
                due.is("corner " + i, x.corner(line, i <= side ? i : i - 1, 0), i + 1);
            }
            due.is("side " + side + " of length 0", x.check(line), -10 - side);
        }
        // Two corners that follow one another change their places in a round: the side before them crosses that behind.
        for (int first = 0; first < 24; first++) {
            Plane x = new Plane(due);
            int polygon = x.polygon();
            for (int i = 0; i < 24; i++) {
                int at = i == first ? (i + 1) % 24 : i == (first + 1) % 24 ? first : i;
                due.is("corner " + i, x.corner(polygon, at, at * at), i + 1);
            }
            int before = (first + 23) % 24;
            int behind = (first + 1) % 24;
            due.is("sides " + before + " and " + behind + " cross", x.check(polygon), -10 - Math.min(before, behind));
        }
    }

    private static void rightPoint() {
        Plane x = new Plane(due);
        due.is("check", x.check(x.point(0, 0)), 1);
        due.is("check", x.check(x.point(10000, -10000)), 1);
        due.is("near", x.near(0, 0, 1), 1);
        x.squareIs(0, 1, 200000000, 1);
    }

    private static void rightLineHasTwoCorners() {
        Plane x = new Plane(due);
        int line = x.line();
        int at = x.point(1, 1);
        due.is("check", x.check(line), 0);
        due.is("meets", x.meets(line, at), BAD);
        due.is("corner", x.corner(line, 1, 1), 1);
        due.is("check", x.check(line), 0);
        due.is("meets", x.meets(line, at), BAD);
        due.is("square", x.square(at, line, 1), BAD);
        due.is("near", x.near(1, 1, 1), BAD);
        due.is("boxed", x.boxed(1, 1, 1, 1), 1);
        due.is("corner", x.corner(line, 2, 1), 2);
        due.is("check", x.check(line), 1);
        due.is("meets", x.meets(line, at), 1);
        due.is("near", x.near(1, 1, 0), line);
        due.is("boxed", x.boxed(1, 1, 1, 1), 2);
    }

    private static void rightLineMovesOn() {
        Plane x = new Plane(due);
        due.is("the same place", x.check(x.lineOf(3, 3, 3, 3)), -10);
        due.is("another x", x.check(x.lineOf(3, 3, 4, 3)), 1);
        due.is("another y", x.check(x.lineOf(3, 3, 3, 4)), 1);
        due.is("x and y change places", x.check(x.lineOf(3, 4, 4, 3)), 1);
        due.is("the place before the one before", x.check(x.lineOf(3, 3, 4, 4, 3, 3)), 1);
        due.is("the last two the same", x.check(x.lineOf(0, 0, 1, 0, 1, 1, 1, 1)), -12);
        due.is("a line that crosses and runs over itself", x.check(x.lineOf(0, 0, 4, 0, 1, 0, 2, 2, 2, -2)), 1);
        int wrong = x.lineOf(0, 0, 0, 0);
        due.is("corner", x.corner(wrong, 1, 1), 3);
        due.is("a corner more mends nothing", x.check(wrong), -10);
    }

    private static void rightPolygonHasThreeCorners() {
        Plane x = new Plane(due);
        int polygon = x.polygon();
        int at = x.point(1, 1);
        int[][] corners = {{0, 0}, {4, 0}};
        for (int i = 0; i < 2; i++) {
            due.is("check with " + i, x.check(polygon), 0);
            due.is("corner", x.corner(polygon, corners[i][0], corners[i][1]), i + 1);
        }
        due.is("check with 2", x.check(polygon), 0);
        due.is("inside", x.inside(1, 1, polygon), BAD);
        due.is("meets", x.meets(at, polygon), BAD);
        due.is("near", x.near(1, 1, 1), BAD);
        due.is("boxed", x.boxed(0, 0, 4, 4), 1);
        due.is("corner", x.corner(polygon, 0, 4), 3);
        due.is("check with 3", x.check(polygon), 1);
        due.is("inside", x.inside(1, 1, polygon), 1);
        due.is("boxed", x.boxed(0, 0, 4, 4), 2);
        due.is("two at one place are still too few", x.check(x.polygonOf(1, 1, 1, 1)), 0);
    }

    private static void rightPolygonHasNoSideWithoutLength() {
        Plane x = new Plane(due);
        due.is("all three", x.check(x.polygonOf(5, 5, 5, 5, 5, 5)), -10);
        due.is("side 0 of three", x.check(x.polygonOf(0, 0, 0, 0, 4, 0)), -10);
        due.is("side 0 of four", x.check(x.polygonOf(0, 0, 0, 0, 4, 0, 4, 3)), -10);
        // The sides before and behind have that place in common, and are no neighbours.
        due.is("side 2 of five", x.check(x.polygonOf(0, 0, 9, 0, 9, 9, 9, 9, 0, 9)), -11);
        due.is("the last side of four", x.check(x.polygonOf(0, 0, 4, 0, 4, 3, 0, 0)), -10);
        due.is("sides of length 1", x.check(x.polygonOf(0, 0, 1, 0, 1, 1, 0, 1)), 1);
    }

    private static void rightPolygonSidesAreApart() {
        Plane x = new Plane(due);
        due.is("cross", x.check(x.polygonOf(0, 0, 4, 4, 4, 0, 0, 4)), -10);
        due.is("a corner on a side", x.check(x.polygonOf(0, 0, 8, 0, 8, 8, 4, 0, 0, 8)), -10);
        due.is("a corner a unit off a side", x.check(x.polygonOf(0, 0, 8, 0, 8, 8, 4, 1, 0, 8)), 1);
        due.is("a corner on a corner", x.check(x.polygonOf(0, 0, 8, 0, 4, 4, 8, 8, 0, 8, 4, 4)), -11);
        due.is("a corner a unit off a corner", x.check(x.polygonOf(0, 0, 8, 0, 5, 4, 8, 8, 0, 8, 4, 4)), 1);
        due.is("run over one another", x.check(x.polygonOf(0, 0, 2, 0, 2, 5, 6, 5, 6, 0, 1, 0, 1, -5)), -10);
        due.is("on one straight line, apart", x.check(x.polygonOf(0, 0, 2, 0, 3, 5, 4, 0, 6, 0, 3, 9)), 1);
        due.is("on one straight line, end to end", x.check(x.polygonOf(0, 0, 3, 0, 3, 5, 3, 0, 6, 0, 3, 9)), -10);
        due.is("a long sliver", x.check(x.polygonOf(-10000, -10000, 10000, 10000, 10000, 9999, -9999, -10000)), 1);
        due.is("far corners cross", x.check(x.polygonOf(-10000, -10000, 10000, 10000, 10000, -10000, -10000, 10000)), -10);
        due.is("a far corner on a side", x.check(x.polygonOf(-10000, -10000, 10000, 10000, 9999, 10000, 0, 0, -10000, 10000)), -10);
        // Less than the 28,000th part of a unit off.
        due.is("a far corner hardly off a side", x.check(x.polygonOf(-10000, -9999, 10000, 10000, 9999, 10000, -9999, -9998, -10000, 10000)), 1);
    }

    private static void rightPolygonNeighbours() {
        Plane x = new Plane(due);
        due.is("straight on", x.check(x.polygonOf(0, 0, 2, 0, 4, 0, 4, 4)), 1);
        due.is("straight on, upright", x.check(x.polygonOf(0, 0, 0, 2, 0, 4, 4, 4)), 1);
        due.is("straight on, slanting", x.check(x.polygonOf(0, 0, 2, 1, 4, 2, 4, 4)), 1);
        due.is("back on itself", x.check(x.polygonOf(0, 0, 4, 0, -3, 0, 0, 5)), -10);
        due.is("back on itself, upright", x.check(x.polygonOf(0, 0, 0, 4, 0, -3, 5, 0)), -10);
        due.is("back on itself, slanting", x.check(x.polygonOf(0, 0, 4, 2, -2, -1, 0, 5)), -10);
        due.is("sharply back, but off itself", x.check(x.polygonOf(0, 0, 4, 0, -3, 1, 0, 5)), -11);
        due.is("sharply back in far places", x.check(x.polygonOf(-10000, -10000, 10000, 9999, -9999, -9999)), 1);
        due.is("flat", x.check(x.polygonOf(0, 0, 4, 0, 8, 0)), -10);
        due.is("flat", x.check(x.polygonOf(0, 0, 8, 0, 4, 0)), -10);
        due.is("flat", x.check(x.polygonOf(4, 0, 0, 0, 8, 0)), -10);
        due.is("flat, to and fro", x.check(x.polygonOf(0, 0, 4, 0, 0, 0)), -10);
        due.is("flat in far places", x.check(x.polygonOf(-10000, -10000, 10000, 10000, 0, 0)), -10);
    }

    private static void lastAndFirstAreNeighbours() {
        Plane x = new Plane(due);
        due.is("of three", x.check(x.polygonOf(0, 0, 4, 0, 0, 4)), 1);
        due.is("of four", x.check(x.polygonOf(0, 0, 4, 0, 4, 4, 0, 4)), 1);
        due.is("straight on", x.check(x.polygonOf(2, 0, 4, 0, 4, 4, 0, 0)), 1);
        due.is("the first back on the last", x.check(x.polygonOf(0, 0, 2, 0, 2, 5, 6, 5, 6, 0)), -10);
        due.is("the last back on the first", x.check(x.polygonOf(0, 0, 6, 0, 6, 5, 2, 5, 2, 0)), -10);
    }

    private static void placesOfShapes() {
        Plane x = new Plane(due);
        int rising = x.lineOf(0, 0, 1, 1);
        int falling = x.lineOf(0, 1, 1, 0);
        meetBothWays(x, "lines that cross between whole places", rising, falling, 1);
        int round = x.lineOf(-9, -9, 9, -9, 9, 9, -9, 9, -9, -9);
        meetBothWays(x, "a line encloses nothing", round, rising, 0);
        int field = x.polygonOf(-9, -9, 9, -9, 9, 9, -9, 9);
        meetBothWays(x, "a line that a polygon encloses", field, rising, 1);
        meetBothWays(x, "a line along a polygon's sides", round, field, 1);
        int bay = x.polygonOf(20, 0, 30, 0, 30, 10, 20, 10, 20, 8, 28, 8, 28, 2, 20, 2);
        meetBothWays(x, "in a bay, not enclosed", bay, x.point(24, 5), 0);
        meetBothWays(x, "enclosed beside the bay", bay, x.point(24, 1), 1);
        int inBay = x.polygonOf(22, 4, 26, 4, 26, 6, 22, 6);
        meetBothWays(x, "a polygon in the bay", bay, inBay, 0);
        meetBothWays(x, "a polygon that a polygon encloses", x.polygonOf(15, -5, 35, -5, 35, 15, 15, 15), inBay, 1);
        meetBothWays(x, "a corner on a corner", field, x.polygonOf(9, 9, 12, 9, 12, 12), 1);
        meetBothWays(x, "a corner on a side", field, x.lineOf(9, 4, 12, 4), 1);
        meetBothWays(x, "a unit off", field, x.lineOf(10, -9, 10, 9), 0);
    }

    private static void meetBothWays(Plane x, String how, int a, int b, int want) {
        due.is(how, x.meets(a, b), want);
        due.is(how + ", the other way round", x.meets(b, a), want);
    }

    private static void squareIsTheLeast() {
        Plane x = new Plane(due);
        int line = x.lineOf(0, 0, 10, 0);
        x.squareIs(line, x.point(5, 3), 9, 1);
        x.squareIs(line, x.point(0, 3), 9, 1);
        x.squareIs(line, x.point(-4, 3), 25, 1);
        x.squareIs(line, x.point(14, 3), 25, 1);
        x.squareIs(x.lineOf(0, 0, 10, -20), x.point(3, -30), 149, 1);
        x.squareIs(x.lineOf(0, 0, -20, 10), x.point(-30, 3), 149, 1);
        x.squareIs(line, x.lineOf(5, 2, 5, 9), 4, 1);
        x.squareIs(line, x.lineOf(-5, 1, 15, 1), 1, 1);
        x.squareIs(line, x.lineOf(12, 0, 15, 0), 4, 1);
        x.squareIs(line, x.polygonOf(3, 7, 5, 4, 7, 7), 16, 1);
        int far = x.point(-10000, -10000);
        x.squareIs(far, x.point(10000, 10000), 800000000, 1);
        x.squareIs(far, x.lineOf(-10000, 10000, 10000, -9999), 160000000000000000L, 799960001);
        // Two sides of which no double tells the nearer one, and a far one between them.
        x.squareIs(far, x.lineOf(-8349, 8740, 4313, -6521, 8216, -9645, -7579, 6416), 88907973411708801L, 507437746);
        x.squareIs(far, x.lineOf(-7579, 6416, 8216, -9645, 4313, -6521, -8349, 8740), 88907973411708801L, 507437746);
        x.squareIs(far, x.lineOf(4313, -6521, -8349, 8740), 68896690606567681L, 393224365);
        x.squareIs(x.lineOf(-10000, -10000, 9999, 10000), x.lineOf(-9999, -10000, 10000, 9998), 400000000, 799960001);
        squareFindsTheNearestSide();
    }

    /** To and fro along x + y = c: the square of such a side is (20000 + c) x (20000 + c) / 2, and products of its numbers pass the end of a long. */
    private static void squareFindsTheNearestSide() {
        Plane x = new Plane(due);
        int far = x.point(-10000, -10000);
        for (int nearest = 0; nearest < 12; nearest++) {
            int line = x.line();
            for (int i = 0; i < 12; i++) {
                int c = i == nearest ? 11 : 100 + 37 * i;
                due.is("corner", x.corner(line, c - 10000, 10000), 2 * i + 1);
                due.is("corner", x.corner(line, 10000, c - 10000), 2 * i + 2);
            }
            x.squareIs(far, line, 20011 * 20011, 2);
        }
    }

    private static void squareInLowestTerms() {
        Plane x = new Plane(due);
        int zero = x.point(0, 0);
        // Each as the square of twice the triangle over the square of the side: 64 / 32, 36 / 8, 100 / 20, 36 / 52.
        x.squareIs(zero, x.lineOf(2, 0, -2, 4), 2, 1);
        x.squareIs(zero, x.lineOf(3, 0, 1, 2), 9, 2);
        x.squareIs(zero, x.lineOf(3, -1, 1, 3), 5, 1);
        x.squareIs(zero, x.lineOf(3, 1, -3, -3), 9, 13);
        int line = x.lineOf(-3, -3, 3, 3);
        x.squareIs(zero, line, 0, 1);
        x.squareIs(zero, zero, 0, 1);
        x.squareIs(line, line, 0, 1);
        int field = x.polygonOf(-5, -5, 5, -5, 5, 5, -5, 5);
        x.squareIs(zero, field, 0, 1);
        x.squareIs(line, field, 0, 1);
        x.squareIs(field, x.point(5, 5), 0, 1);
    }

    private static void box() {
        // Neither the first corner nor the last one has a least or greatest number.
        int[] round = {0, -2, 4, -4, 5, 3, 1, 8, -3, 2, -1, -1};
        int[][] corners = {{7, 7}, round, round};
        int[][] boxes = {{7, 7, 7, 7}, {-3, -4, 5, 8}, {-3, -4, 5, 8}};
        for (int kind = 0; kind < 3; kind++) {
            Plane x = new Plane(due);
            int[] at = corners[kind];
            int shape = kind == 0 ? x.point(at[0], at[1]) : kind == 1 ? x.lineOf(at) : x.polygonOf(at);
            int[] box = boxes[kind];
            due.is("check", x.check(shape), 1);
            due.is("lower left corner", x.boxed(-100, -100, box[0], box[1]), 1);
            due.is("upper right corner", x.boxed(box[2], box[3], 100, 100), 1);
            due.is("upper left corner", x.boxed(-100, box[3], box[0], 100), 1);
            due.is("lower right corner", x.boxed(box[2], -100, 100, box[1]), 1);
            due.is("left of it", x.boxed(-100, -100, box[0] - 1, 100), 0);
            due.is("right of it", x.boxed(box[2] + 1, -100, 100, 100), 0);
            due.is("below it", x.boxed(-100, -100, 100, box[1] - 1), 0);
            due.is("above it", x.boxed(-100, box[3] + 1, 100, 100), 0);
            due.is("within it", x.boxed(box[0], box[1], box[0], box[1]), 1);
        }
    }
}
