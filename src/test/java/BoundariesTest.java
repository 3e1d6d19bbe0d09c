/** The sentences under "Promise 1" to "Promise 15" that name a boundary case: a method for each. */
public final class BoundariesTest {
    private static final int BAD = PlacePoints.BAD;
    private static final int FULL = PlacePoints.FULL;
    private static final int LEAST = Integer.MIN_VALUE;
    private static final int MOST = Integer.MAX_VALUE;
    private static final int[][] NO_PLACES = {{-10001, 0}, {10001, 0}, {0, -10001}, {0, 10001},
        {LEAST, 0}, {MOST, 0}, {0, LEAST}, {0, MOST}, {10001, 10001}, {LEAST, LEAST}, {MOST, MOST}};
    private static final Due due = new Due();

    public static void main(String[] args) {
        due.sentence("PlacePoints(): No shapes.", BoundariesTest::newHasNoShapes);
        due.sentence("point: BAD when that is no place", BoundariesTest::pointAtNoPlace);
        due.sentence("point: FULL when there were 60 shapes", BoundariesTest::pointWith60Shapes);
        due.sentence("point: FULL when .. there is no room for the corner", BoundariesTest::pointWithoutRoom);
        due.sentence("A line without corners: its number.", BoundariesTest::lineWithoutCorners);
        due.sentence("line: FULL.", BoundariesTest::lineFull);
        due.sentence("A polygon without corners: its number.", BoundariesTest::polygonWithoutCorners);
        due.sentence("polygon: FULL.", BoundariesTest::polygonFull);
        due.sentence("A line or polygon has a corner more, behind the others: how many.", BoundariesTest::cornerBehindTheOthers);
        due.sentence("corner: BAD when there is no such shape", BoundariesTest::cornerOfNoShape);
        due.sentence("corner: BAD when there is no such .. place", BoundariesTest::cornerAtNoPlace);
        due.sentence("corner: FULL.", BoundariesTest::cornerFull);
        due.sentence("A shape goes: 1", BoundariesTest::removeGoes);
        due.sentence("remove: BAD when there is none such.", BoundariesTest::removeNone);
        due.sentence("1 when a shape is RIGHT", BoundariesTest::checkRight);
        due.sentence("0 when it has too few corners", BoundariesTest::checkTooFew);
        due.sentence("else -10 - i for the least side i that is of length 0, or has a place in common with another one as told",
            BoundariesTest::checkLeastWrongSide);
        due.sentence("check: BAD.", BoundariesTest::checkNone);
        due.sentence("A place against a polygon: 0 outside, 1 inside, 2 on a side.", BoundariesTest::insideOutsideOnASide);
        due.sentence("inside: BAD when that is no place", BoundariesTest::insideAtNoPlace);
        due.sentence("inside: BAD when that is .. no right polygon.", BoundariesTest::insideOfNoRightPolygon);
        due.sentence("Whether two right shapes have a place in common: 1 or 0", BoundariesTest::meetsOrNot);
        due.sentence("meets: BAD.", BoundariesTest::meetsBad);
        due.sentence("The SQUARE of two right shapes: its upper (part = 0) or lower number", BoundariesTest::squareParts);
        due.sentence("square: BAD.", BoundariesTest::squareBad);
        due.sentence("near: Of the right shapes", BoundariesTest::nearRightShapesAlone);
        due.sentence("near: sorted by their SQUARE to a place (as of a point there)", BoundariesTest::nearBySquare);
        due.sentence("near: then by their numbers", BoundariesTest::nearByNumber);
        due.sentence("near: number k (from 0)", BoundariesTest::nearFromZero);
        due.sentence("near: BAD when there is none such", BoundariesTest::nearNoneSuch);
        due.sentence("near: BAD when .. it is no place.", BoundariesTest::nearNoPlace);
        due.sentence("Twice the area that a right polygon encloses", BoundariesTest::areaTwice);
        due.sentence("area: below 0 when its corners go round with the clock (y going up)", BoundariesTest::areaWithTheClock);
        due.sentence("area: 0 for other shapes.", BoundariesTest::areaOfOthers);
        due.sentence("How many right shapes have a BOX that has a place in common with that from (x, y) to (u, v)", BoundariesTest::boxedInCommon);
        due.sentence("boxed: How many right shapes", BoundariesTest::boxedRightShapesAlone);
        due.sentence("boxed: 0 when x is above u, or y above v.", BoundariesTest::boxedWrongWayRound);
        due.sentence("found: Shape i (from 0) of those", BoundariesTest::foundFromZero);
        due.sentence("found: by their numbers", BoundariesTest::foundByNumber);
        due.sentence("found: of those of the latest boxed()", BoundariesTest::foundOfTheLatest);
        due.sentence("found: (as it was then)", BoundariesTest::foundAsItWasThen);
        due.sentence("There are as many as that told, and no others.", BoundariesTest::foundNoOthers);
        due.sentence("How many shapes there are (those that went do not count).", BoundariesTest::shapesStanding);
        due.end();
    }

    /** Numbers that name no shape, where 'count' were made and number 'gone' went. */
    private static int[] noNumbers(int count, int gone) {
        return new int[] {-1, -2, count, count + 1, 59, 60, 61, LEAST, MOST, gone};
    }

    /** A point 0, a right line 1, a right polygon 2, a wrong line 3, a wrong polygon 4, an empty line 5, an empty polygon 6; 7 went. */
    private static Plane oneOfEach() {
        Plane x = new Plane(due);
        due.is("point", x.point(2, 2), 0);
        due.is("line", x.lineOf(0, 0, 9, 9), 1);
        due.is("polygon", x.polygonOf(0, 0, 9, 0, 9, 9, 0, 9), 2);
        due.is("line", x.lineOf(2, 2, 2, 2), 3);
        due.is("polygon", x.polygonOf(0, 0, 6, 4, 6, 0, 0, 5), 4);
        due.is("line", x.line(), 5);
        due.is("polygon", x.polygon(), 6);
        due.is("polygon", x.polygonOf(0, 0, 9, 0, 9, 9), 7);
        due.is("remove", x.remove(7), 1);
        return x;
    }

    /** 60 points, so that 60 is the least number that none can have. */
    private static Plane withAllShapes() {
        Plane x = new Plane(due);
        for (int i = 0; i < 60; i++) {
            due.is("point", x.point(i, 0), i);
        }
        return x;
    }

    private static void newHasNoShapes() {
        Plane used = oneOfEach();
        due.is("boxed of another object", used.boxed(0, 0, 9, 9), 3);
        Plane x = new Plane(due);
        due.is("shapes", x.shapes(), 0);
        due.is("found", x.found(0), Due.THROWS);
        due.is("corner", x.corner(0, 0, 0), BAD);
        due.is("remove", x.remove(0), BAD);
        due.is("check", x.check(0), BAD);
        due.is("inside", x.inside(0, 0, 0), BAD);
        due.is("meets", x.meets(0, 0), BAD);
        due.is("square", x.square(0, 0, 0), BAD);
        due.is("square", x.square(0, 0, 1), BAD);
        due.is("near", x.near(0, 0, 0), BAD);
        due.is("area", x.area(0), 0);
        due.is("boxed", x.boxed(LEAST, LEAST, MOST, MOST), 0);
        due.is("found", x.found(0), Due.THROWS);
        due.is("shapes", x.shapes(), 0);
        due.is("the first number", x.point(0, 0), 0);
        due.is("shapes of the other object", used.shapes(), 7);
    }

    private static void pointAtNoPlace() {
        Plane x = new Plane(due);
        for (int[] at : NO_PLACES) {
            due.is("point(" + at[0] + ", " + at[1] + ")", x.point(at[0], at[1]), BAD);
        }
        due.is("shapes", x.shapes(), 0);
        due.is("the next number", x.point(10000, -10000), 0);
    }

    private static void pointWith60Shapes() {
        Plane x = new Plane(due);
        for (int i = 0; i < 59; i++) {
            due.is("polygon", x.polygon(), i);
        }
        due.is("point 59", x.point(0, 0), 59);
        due.is("point 60", x.point(1, 1), FULL);
        due.is("point 60 at no place", x.point(10001, 1), BAD);
        due.is("remove", x.remove(59), 1);
        due.is("remove", x.remove(0), 1);
        due.is("there were 60, though there are less", x.point(1, 1), FULL);
        due.is("shapes", x.shapes(), 58);
        due.is("near", x.near(1, 1, 0), BAD);
    }

    /** 16 lines of 24 corners each: 384 corners. */
    private static Plane almostWithoutRoom() {
        Plane x = new Plane(due);
        for (int i = 0; i < 16; i++) {
            due.is("line", x.line(), i);
            for (int k = 0; k < 24; k++) {
                due.is("corner", x.corner(i, k, 10 * i), k + 1);
            }
        }
        return x;
    }

    private static void pointWithoutRoom() {
        Plane x = almostWithoutRoom();
        for (int i = 16; i < 32; i++) {
            due.is("point with room", x.point(i, -1), i);
        }
        due.is("point without room", x.point(0, -1), FULL);
        due.is("point without room at no place", x.point(0, -10001), BAD);
        due.is("remove", x.remove(31), 1);
        due.is("the room of one that went is not there again", x.point(0, -1), FULL);
        due.is("shapes", x.shapes(), 31);
        due.is("a refused point is in no box", x.boxed(0, -1, 0, -1), 0);
        due.is("a refused point takes no number", x.line(), 32);
    }

    private static void lineWithoutCorners() {
        Plane x = almostWithoutRoom();
        for (int i = 16; i < 32; i++) {
            due.is("point", x.point(0, 0), i);
        }
        due.is("line, that needs no room for corners", x.line(), 32);
        due.is("check", x.check(32), 0);
        Plane y = new Plane(due);
        due.is("line", y.line(), 0);
        due.is("shapes", y.shapes(), 1);
        due.is("check", y.check(0), 0);
        due.is("boxed", y.boxed(LEAST, LEAST, MOST, MOST), 0);
        due.is("its first corner", y.corner(0, 5, 5), 1);
    }

    private static void lineFull() {
        Plane x = new Plane(due);
        for (int i = 0; i < 60; i++) {
            due.is("line " + i, x.line(), i);
        }
        due.is("line 60", x.line(), FULL);
        due.is("shapes", x.shapes(), 60);
        due.is("remove", x.remove(59), 1);
        due.is("line 60 when one went", x.line(), FULL);
        due.is("shapes", x.shapes(), 59);
    }

    private static void polygonWithoutCorners() {
        Plane x = almostWithoutRoom();
        for (int i = 16; i < 32; i++) {
            due.is("point", x.point(0, 0), i);
        }
        due.is("polygon, that needs no room for corners", x.polygon(), 32);
        due.is("check", x.check(32), 0);
        Plane y = new Plane(due);
        due.is("polygon", y.polygon(), 0);
        due.is("shapes", y.shapes(), 1);
        due.is("check", y.check(0), 0);
        due.is("inside", y.inside(0, 0, 0), BAD);
        due.is("area", y.area(0), 0);
        due.is("its first corner", y.corner(0, 5, 5), 1);
    }

    private static void polygonFull() {
        Plane x = new Plane(due);
        for (int i = 0; i < 60; i++) {
            due.is("polygon " + i, x.polygon(), i);
        }
        due.is("polygon 60", x.polygon(), FULL);
        due.is("shapes", x.shapes(), 60);
        due.is("remove", x.remove(59), 1);
        due.is("polygon 60 when one went", x.polygon(), FULL);
        due.is("shapes", x.shapes(), 59);
    }

    private static void cornerBehindTheOthers() {
        Plane x = new Plane(due);
        int line = x.line();
        int polygon = x.polygon();
        int[][] corners = {{0, 0}, {8, 0}, {8, 8}, {0, 8}, {-2, 4}};
        for (int i = 0; i < corners.length; i++) {
            due.is("corner " + i + " of a line", x.corner(line, corners[i][0], corners[i][1]), i + 1);
            due.is("corner " + i + " of a polygon", x.corner(polygon, corners[i][0], corners[i][1]), i + 1);
        }
        due.is("area", x.area(polygon), 2 * (64 + 8));
        due.is("the last side of the polygon", x.inside(-1, 2, polygon), 2);
        due.is("no side of the line there", x.meets(line, x.point(-1, 2)), 0);
        due.is("the last side of the line", x.meets(line, x.point(-1, 6)), 1);
        due.is("corner at the last one's place", x.corner(line, -2, 4), 6);
        due.is("check", x.check(line), -14);
    }

    private static void cornerOfNoShape() {
        Plane x = oneOfEach();
        for (int number : noNumbers(8, 7)) {
            due.is("corner(" + number + ", 1, 1)", x.corner(number, 1, 1), BAD);
        }
        due.is("corner of a point", x.corner(0, 1, 1), BAD);
        due.is("shapes", x.shapes(), 7);
        due.is("corner(60, 1, 1) of 60 shapes", withAllShapes().corner(60, 1, 1), BAD);
        Plane y = almostWithoutRoom();
        int last = y.line();
        for (int i = 0; i < 15; i++) {
            due.is("corner", y.corner(last, i, i), i + 1);
        }
        due.is("remove", y.remove(0), 1);
        due.is("corner of one that went takes no room", y.corner(0, 1, 1), BAD);
        due.is("corner of none takes no room", y.corner(17, 1, 1), BAD);
        due.is("corner 399", y.corner(last, 15, 15), 16);
        due.is("corner without room", y.corner(last, 16, 16), FULL);
        due.is("corner without room, of one that went", y.corner(0, 1, 1), BAD);
        due.is("corner without room, of none", y.corner(17, 1, 1), BAD);
    }

    private static void cornerAtNoPlace() {
        Plane x = oneOfEach();
        for (int[] at : NO_PLACES) {
            due.is("corner(1, " + at[0] + ", " + at[1] + ")", x.corner(1, at[0], at[1]), BAD);
            due.is("corner(2, " + at[0] + ", " + at[1] + ")", x.corner(2, at[0], at[1]), BAD);
        }
        due.is("the line is as it was", x.check(1), 1);
        due.is("the polygon is as it was", x.area(2), 162);
        due.is("the boxes are as they were", x.boxed(10, 10, MOST, MOST), 0);
        due.is("corner", x.corner(1, 10000, -10000), 3);
        due.is("corner", x.corner(2, -10000, 10000), 5);
        Plane y = almostWithoutRoom();
        due.is("no place for a line of 24 corners", y.corner(0, 10001, 0), BAD);
        int last = y.line();
        for (int i = 0; i < 15; i++) {
            due.is("corner", y.corner(last, i, i), i + 1);
        }
        due.is("no place takes no room", y.corner(last, 10001, 0), BAD);
        due.is("corner 399", y.corner(last, 15, 15), 16);
        due.is("no place without room", y.corner(last, 0, 10001), BAD);
    }

    private static void cornerFull() {
        Plane x = almostWithoutRoom();
        due.is("corner 24 of a line", x.corner(0, 500, 500), FULL);
        due.is("corner 24 of a line", x.corner(15, 500, 500), FULL);
        due.is("no part of its box", x.boxed(24, 0, 500, 500), 0);
        int last = x.polygon();
        for (int i = 0; i < 16; i++) {
            due.is("corner that a refused one took no room of", x.corner(last, i, -i * i - 1), i + 1);
        }
        due.is("corner 400", x.corner(last, 0, -500), FULL);
        due.is("check", x.check(last), 1);
        due.is("the polygon is as it was", x.inside(0, -500, last), 0);
        due.is("no part of its box", x.boxed(0, -500, 500, -300), 0);
        due.is("corner 400 once more", x.corner(last, 0, -500), FULL);
    }

    private static void removeGoes() {
        Plane x = oneOfEach();
        due.is("boxed", x.boxed(0, 0, 9, 9), 3);
        for (int i = 6; i >= 0; i--) {
            due.is("check before", x.check(i) == BAD ? 1 : 0, 0);
            due.is("remove(" + i + ")", x.remove(i), 1);
            due.is("shapes", x.shapes(), i);
            due.is("check", x.check(i), BAD);
            due.is("corner", x.corner(i, 5, 5), BAD);
            due.is("inside", x.inside(2, 2, i), BAD);
            due.is("meets itself", x.meets(i, i), BAD);
            due.is("meets the point", x.meets(0, i), BAD);
            due.is("square", x.square(i, 0, 1), BAD);
            due.is("area", x.area(i), 0);
            due.is("near", x.near(2, 2, Math.min(i, 3)), BAD);
            due.is("boxed", x.boxed(0, 0, 9, 9), Math.min(i, 3));
        }
    }

    private static void removeNone() {
        Plane x = oneOfEach();
        for (int number : noNumbers(8, 7)) {
            due.is("remove(" + number + ")", x.remove(number), BAD);
        }
        due.is("shapes", x.shapes(), 7);
        due.is("remove", x.remove(0), 1);
        due.is("remove again", x.remove(0), BAD);
        due.is("shapes", x.shapes(), 6);
        Plane all = withAllShapes();
        due.is("remove(60) of 60 shapes", all.remove(60), BAD);
        due.is("remove(59) of 60 shapes", all.remove(59), 1);
        due.is("the next number", x.line(), 8);
    }

    private static void checkRight() {
        Plane x = oneOfEach();
        due.is("a point", x.check(0), 1);
        due.is("a line", x.check(1), 1);
        due.is("a polygon", x.check(2), 1);
        int polygon = x.polygonOf(0, 0, 6, 0, 0, 6, 6, 6);
        due.is("crossed", x.check(polygon), -11);
        due.is("corner", x.corner(polygon, 6, 9), 5);
        due.is("corner", x.corner(polygon, -3, 9), 6);
        due.is("right again by corners more", x.check(polygon), 1);
        due.is("corner", x.corner(polygon, 3, -3), 7);
        due.is("wrong again by a corner more", x.check(polygon), -10);
    }

    private static void checkTooFew() {
        Plane x = new Plane(due);
        due.is("a line of none", x.check(x.lineOf()), 0);
        due.is("a line of one", x.check(x.lineOf(1, 1)), 0);
        due.is("a line of two", x.check(x.lineOf(1, 1, 1, 1)), -10);
        due.is("a polygon of none", x.check(x.polygonOf()), 0);
        due.is("a polygon of one", x.check(x.polygonOf(1, 1)), 0);
        due.is("a polygon of two", x.check(x.polygonOf(1, 1, 2, 2)), 0);
        due.is("a polygon of two at one place", x.check(x.polygonOf(1, 1, 1, 1)), 0);
        due.is("a polygon of three", x.check(x.polygonOf(1, 1, 1, 1, 1, 1)), -10);
    }

    private static void checkLeastWrongSide() {
        Plane x = new Plane(due);
        due.is("side 0", x.check(x.lineOf(0, 0, 0, 0, 1, 1)), -10);
        due.is("side 1 before side 2", x.check(x.lineOf(0, 0, 1, 1, 1, 1, 1, 1)), -11);
        due.is("side 3 before side 5", x.check(x.lineOf(0, 0, 1, 0, 2, 0, 3, 0, 3, 0, 4, 0, 4, 0)), -13);
        due.is("side 3 ends on side 1", x.check(x.polygonOf(0, 0, 9, 0, 9, 6, 5, 8, 9, 2, 0, 2)), -11);
        due.is("sides 2 and 4, and 6 and 8 cross",
            x.check(x.polygonOf(0, 0, 30, 0, 30, 10, 24, 4, 28, 4, 22, 10, 18, 10, 12, 4, 16, 4, 10, 10, 0, 10)), -12);
        due.is("sides 6 and 8 cross",
            x.check(x.polygonOf(0, 0, 30, 0, 30, 10, 28, 4, 24, 4, 22, 10, 18, 10, 12, 4, 16, 4, 10, 10, 0, 10)), -16);
        due.is("side 1 of no length, sides 0 and 2 in common", x.check(x.polygonOf(0, 0, 4, 0, 4, 0, 4, 4)), -10);
        due.is("side 0 and the last but one cross", x.check(x.polygonOf(0, 0, 9, 0, 9, 9, 5, -1, 0, 9)), -10);
        due.is("side 2 touches a corner of the last", x.check(x.polygonOf(0, 0, 8, -2, 8, 0, 4, 8, 0, 12, 6, 4)), -12);
    }

    private static void checkNone() {
        Plane x = oneOfEach();
        for (int number : noNumbers(8, 7)) {
            due.is("check(" + number + ")", x.check(number), BAD);
        }
        Plane all = withAllShapes();
        due.is("check(60) of 60 shapes", all.check(60), BAD);
        due.is("check(59) of 60 shapes", all.check(59), 1);
    }

    private static void insideOutsideOnASide() {
        int[] round = {0, 0, 8, 0, 8, 6, 6, 6, 6, 2, 2, 2, 2, 6, 0, 6};
        Plane x = new Plane(due);
        int polygon = x.polygonOf(round);
        int clock = x.polygonOf(backwards(round));
        for (int v = -1; v <= 7; v++) {
            for (int u = -1; u <= 9; u++) {
                boolean outer = u >= 0 && u <= 8 && v >= 0 && v <= 6;
                boolean bay = u > 2 && u < 6 && v > 2;
                boolean within = u > 0 && u < 8 && v > 0 && v < 6 && (u < 2 || u > 6 || v < 2);
                int want = within ? 1 : outer && !bay ? 2 : 0;
                due.is("inside(" + u + ", " + v + ")", x.inside(u, v, polygon), want);
                due.is("inside(" + u + ", " + v + "), with the clock", x.inside(u, v, clock), want);
            }
        }
        int sliver = x.polygonOf(-10000, -9999, 10000, 10000, 9998, 10000);
        due.is("hardly off two far sides", x.inside(-9999, -9998, sliver), 1);
        due.is("on a far side's end", x.inside(10000, 10000, sliver), 2);
        due.is("below it", x.inside(-9999, -9999, sliver), 0);
        due.is("above it", x.inside(-9999, -9997, sliver), 0);
        insideOfDiamond();
    }

    /** The places of |u| + |v| = 6 are its 24 corners, those of less lie in it. */
    private static void insideOfDiamond() {
        Plane x = new Plane(due);
        int[] corners = new int[48];
        for (int i = 0; i < 24; i++) {
            int[] us = {6 - i % 6, -(i % 6), i % 6 - 6, i % 6};
            corners[2 * i] = us[i / 6];
            corners[2 * i + 1] = us[(i / 6 + 3) % 4];
        }
        int many = x.polygonOf(corners);
        int four = x.polygonOf(6, 0, 0, 6, -6, 0, 0, -6);
        for (int v = -7; v <= 7; v++) {
            for (int u = -7; u <= 7; u++) {
                int away = Math.abs(u) + Math.abs(v);
                int want = away < 6 ? 1 : away == 6 ? 2 : 0;
                due.is("inside(" + u + ", " + v + ")", x.inside(u, v, (u + v) % 2 == 0 ? many : four), want);
            }
        }
    }

    private static int[] backwards(int[] corners) {
        int[] back = new int[corners.length];
        for (int i = 0; i < corners.length; i += 2) {
            back[i] = corners[corners.length - 2 - i];
            back[i + 1] = corners[corners.length - 1 - i];
        }
        return back;
    }

    private static void insideAtNoPlace() {
        Plane x = new Plane(due);
        int all = x.polygonOf(-10000, -10000, 10000, -10000, 10000, 10000, -10000, 10000);
        for (int[] at : NO_PLACES) {
            due.is("inside(" + at[0] + ", " + at[1] + ")", x.inside(at[0], at[1], all), BAD);
        }
        due.is("the last place", x.inside(10000, 10000, all), 2);
        due.is("the first place", x.inside(-10000, -10000, all), 2);
    }

    private static void insideOfNoRightPolygon() {
        Plane x = oneOfEach();
        for (int number : noNumbers(8, 7)) {
            due.is("inside(2, 2, " + number + ")", x.inside(2, 2, number), BAD);
        }
        due.is("inside(0, 0, 60) of 60 shapes", withAllShapes().inside(0, 0, 60), BAD);
        due.is("a point", x.inside(2, 2, 0), BAD);
        due.is("a line", x.inside(2, 2, 1), BAD);
        due.is("a right polygon", x.inside(2, 2, 2), 1);
        due.is("a wrong line", x.inside(2, 2, 3), BAD);
        due.is("a wrong polygon", x.inside(1, 1, 4), BAD);
        due.is("an empty line", x.inside(0, 0, 5), BAD);
        due.is("an empty polygon", x.inside(0, 0, 6), BAD);
        due.is("a polygon of two corners", x.inside(1, 0, x.polygonOf(0, 0, 2, 0)), BAD);
        due.is("a line that goes round", x.inside(1, 1, x.lineOf(0, 0, 4, 0, 0, 4, 0, 0)), BAD);
    }

    private static void meetsOrNot() {
        Plane x = oneOfEach();
        for (int a = 0; a < 3; a++) {
            for (int b = 0; b < 3; b++) {
                due.is("meets(" + a + ", " + b + ")", x.meets(a, b), 1);
            }
        }
        int[] off = {x.point(10, 9), x.lineOf(10, 0, 10, 20), x.polygonOf(10, -1, 20, 0, 10, 1)};
        for (int a : off) {
            for (int b = 0; b < 3; b++) {
                due.is("meets(" + a + ", " + b + ")", x.meets(a, b), 0);
                due.is("meets(" + b + ", " + a + ")", x.meets(b, a), 0);
            }
        }
        int along = x.lineOf(-10000, -9999, 10000, 10000);
        due.is("hardly apart in far places", x.meets(along, x.point(-9999, -9998)), 0);
        due.is("end to end in far places", x.meets(along, x.lineOf(10000, 10000, 10000, -10000)), 1);
        due.is("a side's straight line goes on, the side does not", x.meets(1, x.lineOf(10, 10, 12, 12)), 0);
    }

    private static void meetsBad() {
        Plane x = oneOfEach();
        for (int right = 0; right < 3; right++) {
            for (int number : noNumbers(8, 7)) {
                due.is("meets(" + right + ", " + number + ")", x.meets(right, number), BAD);
                due.is("meets(" + number + ", " + right + ")", x.meets(number, right), BAD);
            }
            for (int wrong = 3; wrong < 7; wrong++) {
                due.is("meets(" + right + ", " + wrong + ")", x.meets(right, wrong), BAD);
                due.is("meets(" + wrong + ", " + right + ")", x.meets(wrong, right), BAD);
            }
        }
        due.is("a wrong one and itself", x.meets(4, 4), BAD);
        due.is("two that are none", x.meets(-1, 8), BAD);
        Plane all = withAllShapes();
        due.is("meets(0, 60) of 60 shapes", all.meets(0, 60), BAD);
        due.is("meets(60, 0) of 60 shapes", all.meets(60, 0), BAD);
        due.is("meets(0, 59) of 60 shapes", all.meets(0, 59), 0);
    }

    private static void squareParts() {
        Plane x = new Plane(due);
        int at = x.point(3, 0);
        int line = x.lineOf(0, 0, 4, 4);
        due.is("part 0", x.square(at, line, 0), 9);
        for (int part : new int[] {1, 2, -1, LEAST, MOST}) {
            due.is("part " + part, x.square(at, line, part), 2);
        }
        due.is("part 0 of nought", x.square(at, at, 0), 0);
        due.is("part 1 of nought", x.square(at, at, 1), 1);
        int low = x.point(-10000, -10000);
        int across = x.lineOf(-10000, 10000, 10000, -9999);
        due.is("the greatest upper number, beyond an int", x.square(low, across, 0), 160000000000000000L);
        due.is("its lower number", x.square(low, across, 1), 799960001);
        due.is("the greatest square", x.square(low, x.point(10000, 10000), 0), 800000000);
    }

    private static void squareBad() {
        Plane x = oneOfEach();
        for (int part = 0; part < 2; part++) {
            for (int number : noNumbers(8, 7)) {
                due.is("square(0, " + number + ", " + part + ")", x.square(0, number, part), BAD);
                due.is("square(" + number + ", 2, " + part + ")", x.square(number, 2, part), BAD);
            }
            for (int wrong = 3; wrong < 7; wrong++) {
                due.is("square(1, " + wrong + ", " + part + ")", x.square(1, wrong, part), BAD);
                due.is("square(" + wrong + ", 1, " + part + ")", x.square(wrong, 1, part), BAD);
                due.is("square of a wrong one and itself", x.square(wrong, wrong, part), BAD);
            }
        }
        Plane all = withAllShapes();
        due.is("square(0, 60, 0) of 60 shapes", all.square(0, 60, 0), BAD);
        due.is("square(60, 0, 1) of 60 shapes", all.square(60, 0, 1), BAD);
        due.is("square(0, 59, 0) of 60 shapes", all.square(0, 59, 0), 59 * 59);
    }

    private static void nearRightShapesAlone() {
        Plane x = oneOfEach();
        for (int k = 0; k < 3; k++) {
            due.is("near(2, 2, " + k + ")", x.near(2, 2, k), k);
        }
        due.is("near(2, 2, 3)", x.near(2, 2, 3), BAD);
        due.is("a line comes right", x.corner(5, 0, 0), 1);
        due.is("near(2, 2, 3)", x.near(2, 2, 3), BAD);
        due.is("a line comes right", x.corner(5, 4, 4), 2);
        due.is("near(2, 2, 3)", x.near(2, 2, 3), 5);
        due.is("a line goes wrong", x.corner(1, 9, 9), 3);
        due.is("near(2, 2, 1)", x.near(2, 2, 1), 2);
        due.is("near(2, 2, 3)", x.near(2, 2, 3), BAD);
    }

    private static void nearBySquare() {
        Plane x = new Plane(due);
        int far = x.point(-9, 0);
        int line = x.lineOf(3, 1, 3, -1);
        int field = x.polygonOf(-5, -5, 20, -5, 20, 20, -5, 20);
        int close = x.point(0, -1);
        // Its square is 4 / 5; that of its nearest whole place is 1, as of the point before it.
        int slant = x.lineOf(-2, 0, 0, 1);
        int at = x.point(0, 2);
        int[] order = {field, slant, close, at, line, far};
        for (int k = 0; k < order.length; k++) {
            due.is("near(0, 0, " + k + ")", x.near(0, 0, k), order[k]);
        }
        nearTellsCloseSquaresApart();
        Plane z = new Plane(due);
        int low = z.point(-10000, -10000);
        int high = z.point(10000, 10000);
        due.is("from the last place", z.near(10000, 10000, 0), high);
        due.is("from the last place", z.near(10000, 10000, 1), low);
        due.is("from the first place", z.near(-10000, -10000, 0), low);
        due.is("from the first place", z.near(-10000, -10000, 1), high);
    }

    private static void nearTellsCloseSquaresApart() {
        Plane x = new Plane(due);
        // Each on x + y = c, c from 16 on: the square is (20000 + c) x (20000 + c) / 2, and products of its numbers pass the end of a long.
        for (int i = 0; i < 16; i++) {
            int c = 16 + i * 7 % 16;
            due.is("line", x.lineOf(c - 10000, 10000, 10000, c - 10000), i);
        }
        for (int k = 0; k < 16; k++) {
            due.is("near(-10000, -10000, " + k + ")", x.near(-10000, -10000, k), k * 7 % 16);
        }
        Plane y = new Plane(due);
        // Whole parts that are the same, then squares that no double tells apart, the farther one first:
        // 68896690606567681 / 393224365 above 88907973411708801 / 507437746,
        // 121637512798958601 / 427623529 above 134188408237369600 / 471746909.
        int[][] lines = {{-7002, 10000, 10000, -7000}, {-7001, 10000, 10000, -7001}, {4313, -6521, -8349, 8740}, {8216, -9645, -7579, 6416},
            {9207, -5689, -5078, 9263}, {9990, -2179, -8740, 8818}};
        for (int i = 0; i < lines.length; i++) {
            due.is("line", y.lineOf(lines[i]), i);
        }
        int[] order = {3, 2, 1, 0, 5, 4};
        for (int k = 0; k < order.length; k++) {
            due.is("near(-10000, -10000, " + k + ")", y.near(-10000, -10000, k), order[k]);
        }
    }

    private static void nearByNumber() {
        Plane x = new Plane(due);
        for (int i = 0; i < 15; i++) {
            due.is("point", x.point(3, 4), 4 * i);
            due.is("point", x.point(-5, 0), 4 * i + 1);
            due.is("point", x.point(1, 1), 4 * i + 2);
            due.is("point", x.point(0, -5), 4 * i + 3);
        }
        for (int k = 0; k < 15; k++) {
            due.is("near(0, 0, " + k + ")", x.near(0, 0, k), 4 * k + 2);
        }
        for (int k = 0; k < 45; k++) {
            due.is("near(0, 0, " + (15 + k) + ")", x.near(0, 0, 15 + k), k / 3 * 4 + (k % 3 == 2 ? 3 : k % 3));
        }
        due.is("remove", x.remove(0), 1);
        due.is("the second of the same when the first went", x.near(0, 0, 15), 1);
        Plane y = new Plane(due);
        // 1 / 2 each time: as 4 / 8, as 1 / 2, as 9 / 18, and of a polygon.
        due.is("line", y.lineOf(2, 1, 0, -1), 0);
        due.is("line", y.lineOf(0, -1, -1, 0), 1);
        due.is("line", y.lineOf(1, 2, -2, -1), 2);
        due.is("polygon", y.polygonOf(1, 0, 0, 1, 5, 5), 3);
        for (int k = 0; k < 4; k++) {
            due.is("near(0, 0, " + k + ")", y.near(0, 0, k), k);
        }
    }

    private static void nearFromZero() {
        Plane x = new Plane(due);
        for (int i = 0; i < 60; i++) {
            due.is("point", x.point(100 - i, 0), i);
        }
        for (int k = 0; k < 60; k++) {
            due.is("near(0, 0, " + k + ")", x.near(0, 0, k), 59 - k);
        }
        due.is("near(0, 0, 60)", x.near(0, 0, 60), BAD);
    }

    private static void nearNoneSuch() {
        Plane x = oneOfEach();
        for (int k : new int[] {-1, -2, 3, 4, 7, 8, 59, 60, 61, LEAST, MOST}) {
            due.is("near(0, 0, " + k + ")", x.near(0, 0, k), BAD);
        }
        due.is("near(0, 0, 2)", x.near(0, 0, 2), 0);
        due.is("remove", x.remove(0), 1);
        due.is("near(0, 0, 2) when one went", x.near(0, 0, 2), BAD);
    }

    private static void nearNoPlace() {
        Plane x = oneOfEach();
        for (int[] at : NO_PLACES) {
            due.is("near(" + at[0] + ", " + at[1] + ", 0)", x.near(at[0], at[1], 0), BAD);
        }
        due.is("the first place", x.near(-10000, -10000, 0), 1);
        due.is("the last place", x.near(10000, 10000, 0), 1);
    }

    private static void areaTwice() {
        Plane x = new Plane(due);
        due.is("half a unit", x.area(x.polygonOf(0, 0, 1, 0, 0, 1)), 1);
        due.is("half a unit in far places", x.area(x.polygonOf(9999, 9999, 10000, 9999, 10000, 10000)), 1);
        due.is("half a unit in far places", x.area(x.polygonOf(-10000, -10000, -9999, -10000, -10000, -9999)), 1);
        due.is("all places", x.area(x.polygonOf(-10000, -10000, 10000, -10000, 10000, 10000, -10000, 10000)), 800000000);
        due.is("another first corner", x.area(x.polygonOf(10000, 10000, -10000, 10000, -10000, -10000, 10000, -10000)), 800000000);
        due.is("a bay is not enclosed", x.area(x.polygonOf(0, 0, 8, 0, 8, 6, 6, 6, 6, 2, 2, 2, 2, 6, 0, 6)), 64);
        due.is("corners on straight sides", x.area(x.polygonOf(0, 0, 2, 0, 4, 0, 4, 4, 2, 4, 0, 4)), 32);
    }

    private static void areaWithTheClock() {
        Plane x = new Plane(due);
        due.is("half a unit", x.area(x.polygonOf(0, 0, 0, 1, 1, 0)), -1);
        due.is("all places", x.area(x.polygonOf(-10000, -10000, -10000, 10000, 10000, 10000, 10000, -10000)), -800000000);
        due.is("a bay", x.area(x.polygonOf(0, 6, 2, 6, 2, 2, 6, 2, 6, 6, 8, 6, 8, 0, 0, 0)), -64);
        due.is("against the clock", x.area(x.polygonOf(0, 0, 1, 0, 0, 1)), 1);
    }

    private static void areaOfOthers() {
        Plane x = oneOfEach();
        due.is("a point", x.area(0), 0);
        due.is("a line", x.area(1), 0);
        due.is("a right polygon", x.area(2), 162);
        due.is("a wrong line", x.area(3), 0);
        due.is("a wrong polygon", x.area(4), 0);
        due.is("an empty line", x.area(5), 0);
        due.is("an empty polygon", x.area(6), 0);
        due.is("a line that goes round", x.area(x.lineOf(0, 0, 4, 0, 0, 4, 0, 0)), 0);
        due.is("a polygon of two corners", x.area(x.polygonOf(1, 0, 0, 3)), 0);
        for (int number : noNumbers(10, 7)) {
            due.is("area(" + number + ")", x.area(number), 0);
        }
        due.is("area(60) of 60 shapes", withAllShapes().area(60), 0);
    }

    private static void boxedInCommon() {
        Plane x = new Plane(due);
        due.is("line", x.lineOf(2, 3, 6, 9), 0);
        int[] lows = {0, 1, 2, 4, 6, 7};
        for (int left : lows) {
            for (int right : lows) {
                int want = left <= right && right >= 2 && left <= 6 ? 1 : 0;
                due.is("boxed(" + left + ", 0, " + right + ", 20)", x.boxed(left, 0, right, 20), want);
            }
        }
        int[] heights = {1, 2, 3, 5, 9, 10};
        for (int low : heights) {
            for (int high : heights) {
                int want = low <= high && high >= 3 && low <= 9 ? 1 : 0;
                due.is("boxed(0, " + low + ", 20, " + high + ")", x.boxed(0, low, 20, high), want);
            }
        }
        due.is("within the box, off the line", x.boxed(5, 4, 5, 4), 1);
        due.is("round the box", x.boxed(LEAST, LEAST, MOST, MOST), 1);
        due.is("from the least", x.boxed(LEAST, LEAST, 2, 3), 1);
        due.is("from the least, a unit short", x.boxed(LEAST, LEAST, 1, 3), 0);
        due.is("to the most", x.boxed(6, 9, MOST, MOST), 1);
        due.is("to the most, a unit late", x.boxed(6, 10, MOST, MOST), 0);
        due.is("beyond all places", x.boxed(10001, LEAST, MOST, MOST), 0);
        due.is("point", x.point(10000, 10000), 1);
        due.is("the last place", x.boxed(10000, 10000, 10000, 10000), 1);
    }

    private static void boxedRightShapesAlone() {
        Plane x = oneOfEach();
        due.is("boxed", x.boxed(0, 0, 9, 9), 3);
        due.is("a line comes right", x.corner(5, 0, 0), 1);
        due.is("boxed", x.boxed(0, 0, 9, 9), 3);
        due.is("a line comes right", x.corner(5, 4, 4), 2);
        due.is("boxed", x.boxed(0, 0, 9, 9), 4);
        due.is("a line goes wrong", x.corner(1, 9, 9), 3);
        due.is("boxed", x.boxed(0, 0, 9, 9), 3);
        due.is("remove", x.remove(0), 1);
        due.is("boxed", x.boxed(0, 0, 9, 9), 2);
    }

    private static void boxedWrongWayRound() {
        Plane x = new Plane(due);
        due.is("polygon", x.polygonOf(-9, -9, 9, -9, 9, 9, -9, 9), 0);
        due.is("x is u, y is v", x.boxed(3, 3, 3, 3), 1);
        due.is("x above u", x.boxed(4, 3, 3, 3), 0);
        due.is("y above v", x.boxed(3, 4, 3, 3), 0);
        due.is("both above", x.boxed(4, 4, 3, 3), 0);
        due.is("x far above u", x.boxed(MOST, 3, LEAST, 3), 0);
        due.is("y far above v", x.boxed(3, MOST, 3, LEAST), 0);
        due.is("the most is not above itself", x.boxed(MOST, MOST, MOST, MOST), 0);
        due.is("boxed", x.boxed(3, 3, 3, 3), 1);
        due.is("x above u", x.boxed(4, 3, 3, 3), 0);
        due.is("found", x.found(0), Due.THROWS);
    }

    private static void foundFromZero() {
        Plane x = new Plane(due);
        for (int i = 0; i < 60; i++) {
            due.is("point", x.point(i, i), i);
        }
        due.is("boxed", x.boxed(0, 0, 59, 59), 60);
        for (int i = 0; i < 60; i++) {
            due.is("found(" + i + ")", x.found(i), i);
        }
        due.is("found(60)", x.found(60), Due.THROWS);
        due.is("boxed", x.boxed(7, 7, 7, 7), 1);
        due.is("found(0)", x.found(0), 7);
    }

    private static void foundByNumber() {
        Plane x = new Plane(due);
        int[] us = {5, 1, 9, 3, 7, 2};
        for (int u : us) {
            x.point(u, 10 - u);
        }
        due.is("polygon", x.polygonOf(0, 0, 4, 0, 4, 9), 6);
        due.is("remove", x.remove(1), 1);
        due.is("boxed", x.boxed(2, 0, 7, 10), 5);
        int[] order = {0, 3, 4, 5, 6};
        for (int i = 0; i < 5; i++) {
            due.is("found(" + i + ")", x.found(i), order[i]);
        }
    }

    private static void foundOfTheLatest() {
        Plane x = new Plane(due);
        for (int i = 0; i < 6; i++) {
            due.is("point", x.point(i, 0), i);
        }
        due.is("found before any", x.found(0), Due.THROWS);
        due.is("boxed", x.boxed(0, 0, 3, 0), 4);
        due.is("boxed", x.boxed(4, 0, 5, 0), 2);
        due.is("found(0)", x.found(0), 4);
        due.is("found(1)", x.found(1), 5);
        due.is("found(2), of the one before", x.found(2), Due.THROWS);
        due.is("boxed, nothing there", x.boxed(0, 1, 5, 1), 0);
        due.is("found(0)", x.found(0), Due.THROWS);
        due.is("boxed", x.boxed(1, 0, 2, 0), 2);
        due.is("found(1)", x.found(1), 2);
        due.is("boxed the wrong way round", x.boxed(2, 0, 1, 0), 0);
        due.is("found(0)", x.found(0), Due.THROWS);
        due.is("boxed", x.boxed(1, 0, 2, 0), 2);
        due.is("boxed the wrong way up", x.boxed(1, 1, 2, 0), 0);
        due.is("found(1)", x.found(1), Due.THROWS);
    }

    private static void foundAsItWasThen() {
        Plane x = new Plane(due);
        due.is("point", x.point(1, 1), 0);
        due.is("line", x.lineOf(1, 1, 2, 2), 1);
        due.is("line", x.lineOf(0, 0), 2);
        due.is("point", x.point(9, 9), 3);
        due.is("boxed", x.boxed(0, 0, 2, 2), 2);
        due.is("one goes", x.remove(0), 1);
        due.is("one goes wrong", x.corner(1, 2, 2), 3);
        due.is("one comes right", x.corner(2, 1, 0), 2);
        due.is("one comes", x.point(1, 1), 4);
        due.is("found(0)", x.found(0), 0);
        due.is("found(1)", x.found(1), 1);
        due.is("found(2)", x.found(2), Due.THROWS);
        due.is("near, refused", x.near(10001, 0, 0), BAD);
        due.is("near", x.near(9, 9, 0), 3);
        due.is("found(0) behind other calls", x.found(0), 0);
        due.is("found(1) behind other calls", x.found(1), 1);
        due.is("boxed", x.boxed(0, 0, 2, 2), 2);
        due.is("found(0) as it is now", x.found(0), 2);
        due.is("found(1) as it is now", x.found(1), 4);
    }

    private static void foundNoOthers() {
        Plane x = new Plane(due);
        for (int i = 0; i < 60; i++) {
            due.is("point", x.point(i, 0), i);
        }
        for (int count : new int[] {60, 59, 2, 1, 0}) {
            due.is("boxed", x.boxed(0, 0, count - 1, 0), count);
            for (int i = 0; i < count; i++) {
                due.is("found(" + i + ") of " + count, x.found(i), i);
            }
            for (int i : new int[] {-1, -2, count, count + 1, 60, 61, 64, LEAST, MOST}) {
                due.is("found(" + i + ") of " + count, x.found(i), Due.THROWS);
            }
        }
        due.is("boxed", x.boxed(0, 0, 4, 0), 5);
        due.is("found behind the last", x.found(5), Due.THROWS);
        due.is("found after it threw", x.found(4), 4);
    }

    private static void shapesStanding() {
        Plane x = new Plane(due);
        due.is("none", x.shapes(), 0);
        for (int i = 0; i < 60; i++) {
            int got = i % 3 == 0 ? x.point(i, 0) : i % 3 == 1 ? x.line() : x.polygon();
            due.is("shape", got, i);
            due.is("shapes", x.shapes(), i + 1);
        }
        due.is("refused", x.line(), FULL);
        due.is("refused", x.point(0, 10001), BAD);
        due.is("the refused do not count", x.shapes(), 60);
        due.is("corner", x.corner(1, 0, 0), 1);
        due.is("a corner does not count", x.shapes(), 60);
        for (int i = 59; i >= 0; i--) {
            due.is("remove", x.remove(i), 1);
            due.is("shapes", x.shapes(), i);
        }
        due.is("remove again", x.remove(0), BAD);
        due.is("shapes", x.shapes(), 0);
    }
}
