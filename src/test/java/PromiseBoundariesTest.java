/** A test for each sentence of the sections 'Promise 1' to 'Promise 14' that names a boundary case. */
public final class PromiseBoundariesTest extends Dues {

    private static void noCells() {
        ShapeTrees t = new ShapeTrees(2);
        for (int cell : new int[] {-1, 0, 1}) {
            dueThrow("polygon", INDEX, () -> t.polygon(cell, 0));
            dueThrow("path", INDEX, () -> t.path(cell, 0, 2, 0));
            dueThrow("place", INDEX, () -> t.place(cell, cell, 0, 0, 0));
            dueThrow("box", INDEX, () -> t.box(cell, 0, 0));
            dueThrow("flat", INDEX, () -> t.flat(cell, 0));
            dueThrow("equalTo", INDEX, () -> t.equalTo(cell));
            dueThrow("find", INDEX, () -> t.find(cell, 0, 0, 0, 0));
            dueThrow("corner of no polygon", INDEX, () -> bit(t.corner(cell, 0, 0)));
            dueThrow("point of no path", INDEX, () -> bit(t.point(cell, 0, 0)));
            dueThrow("array of no place", INDEX, () -> t.array(cell, 1, 1, 0, 0));
            dueThrow("drop of no shape", INDEX, () -> bit(t.drop(cell)));
        }
        due("the first cell", 0, t::cell);
    }

    private static void soManyLayers() {
        int[] asked = {LOW, -65536, -1, 0, 1, 2, 3, 65535, 65536, 65537, 1 << 17, HIGH};
        int[] due = {1, 1, 1, 1, 1, 2, 3, 65535, 65536, 65536, 65536, 65536};
        for (int i = 0; i < asked.length; i++) {
            ShapeTrees t = withCells(asked[i], 1);
            int last = due[i] - 1;
            due(asked[i] + ", the first", 0, () -> t.polygon(0, 0));
            due(asked[i] + ", the last", 1, () -> t.polygon(0, last));
            dueThrow(asked[i] + ", one above", INDEX, () -> t.polygon(0, last + 1));
        }
    }

    private static void nothingLaidFlat() {
        ShapeTrees t = withCells(1, 1);
        dueThrow("a new object", INDEX, () -> t.at(0, 0, 0));
        polygon(t, 0, 0, TRIANGLE);
        dueThrow("with a polygon", INDEX, () -> t.at(0, 0, 0));
        due("laid flat", 1, () -> t.flat(0, 0));
        due("at hand then", 1, () -> t.at(0, 1, 0));
        ShapeTrees other = withCells(1, 1);
        dueThrow("another object has its own", INDEX, () -> other.at(0, 0, 0));
    }

    private static void fullOfCells() {
        ShapeTrees t = withCells(1, 19);
        due("the last one", 19, t::cell);
        dueThrow("one more", STATE, t::cell);
        dueThrow("once more", STATE, t::cell);
        dueThrow("there is none of that number", INDEX, () -> t.flat(20, 0));
        due("the last one is there", 0, () -> t.flat(19, 0));
    }

    private static void polygonIndex() {
        ShapeTrees t = withCells(2, 3);
        for (int bad : new int[] {LOW, -1, 3, 20, HIGH}) {
            dueThrow("cell " + bad, INDEX, () -> t.polygon(bad, 0));
        }
        for (int bad : new int[] {LOW, -1, 2, 65536, HIGH}) {
            dueThrow("layer " + bad, INDEX, () -> t.polygon(0, bad));
        }
        due("the last cell and layer", 0, () -> t.polygon(2, 1));
    }

    /** Numbers are used up for good: dropped ones and empty ones count. */
    private static void fullOfPolygons() {
        ShapeTrees t = withCells(1, 1);
        for (int i = 0; i < 119; i++) {
            t.drop(t.polygon(0, 0));
        }
        due("the last one", 119, () -> t.polygon(0, 0));
        dueThrow("one more", STATE, () -> t.polygon(0, 0));
        t.drop(119);
        dueThrow("one more, all being dropped", STATE, () -> t.polygon(0, 0));
    }

    private static void withoutCorners() {
        ShapeTrees t = withCells(1, 1);
        int first = polygon(t, 0, 0, 5, 5, 6, 6, 7, 9);
        int made = t.polygon(0, 0);
        due("not that of another polygon: the same first corner", 1, () -> bit(t.corner(made, 7, 9)));
        due("the other one alone", 1, () -> t.flat(0, 0));
        dueCorners(t, "the other one", first, 5, 5, 6, 6, 7, 9);
        int zero = t.polygon(0, 0);
        due("0, 0 is a first corner", 1, () -> bit(t.corner(zero, 0, 0)));
        due("0, 0 is no second one then", 0, () -> bit(t.corner(zero, 0, 0)));
    }

    private static void anotherThanTheLatest() {
        ShapeTrees t = withCells(1, 1);
        int made = t.polygon(0, 0);
        due("the first", 1, () -> bit(t.corner(made, 1, 2)));
        due("the same", 0, () -> bit(t.corner(made, 1, 2)));
        due("another x alone", 1, () -> bit(t.corner(made, 2, 2)));
        due("another y alone", 1, () -> bit(t.corner(made, 2, 1)));
        due("x and y the other way round", 1, () -> bit(t.corner(made, 1, 2)));
        due("the latest again", 0, () -> bit(t.corner(made, 1, 2)));
        due("laid flat", 1, () -> t.flat(0, 0));
        dueCorners(t, "none of the refused", 0, 1, 2, 2, 2, 2, 1, 1, 2);
    }

    private static void noPolygon() {
        ShapeTrees t = withCells(1, 1);
        int path = path(t, 0, 0, 2, 0, 0, 0, 0, 5);
        int dropped = polygon(t, 0, 0, TRIANGLE);
        int empty = t.polygon(0, 0);
        t.drop(dropped);
        t.drop(empty);
        dueThrow("a path", INDEX, () -> bit(t.corner(path, 1, 1)));
        dueThrow("a dropped one", INDEX, () -> bit(t.corner(dropped, 1, 1)));
        dueThrow("a dropped one, the latest corner", INDEX, () -> bit(t.corner(dropped, 0, 1)));
        dueThrow("a dropped one that was empty", INDEX, () -> bit(t.corner(empty, 1, 1)));
        for (int bad : new int[] {LOW, -1, 3, 120, HIGH}) {
            dueThrow("polygon " + bad, INDEX, () -> bit(t.corner(bad, 1, 1)));
        }
        due("the path is as it was", 1, () -> t.flat(0, 0));
        dueCorners(t, "the path is as it was", 0, 0, 0, 0, 5);
    }

    private static void has24Corners() {
        ShapeTrees t = withCells(1, 1);
        int made = t.polygon(0, 0);
        for (int i = 0; i < 23; i++) {
            t.corner(made, i, i % 2);
        }
        due("the latest again, with 23", 0, () -> bit(t.corner(made, 22, 0)));
        due("the 24th", 1, () -> bit(t.corner(made, 23, 1)));
        dueThrow("a 25th", STATE, () -> bit(t.corner(made, 24, 0)));
        dueThrow("the latest again, with 24", STATE, () -> bit(t.corner(made, 23, 1)));
        due("another polygon has room", 1, () -> bit(t.corner(t.polygon(0, 0), 0, 0)));
    }

    private static void cornerRange() {
        ShapeTrees t = withCells(1, 1);
        int made = t.polygon(0, 0);
        for (long bad : TOO_FAR) {
            dueThrow("x " + bad, ARGUMENT, () -> bit(t.corner(made, bad, FAR)));
            dueThrow("y " + bad, ARGUMENT, () -> bit(t.corner(made, -FAR, bad)));
            dueThrow("both " + bad, ARGUMENT, () -> bit(t.corner(made, bad, bad)));
        }
        due("no corner has come of it", 1, () -> bit(t.corner(made, -FAR, FAR)));
        due("the same corner", 0, () -> bit(t.corner(made, -FAR, FAR)));
        due("the other end", 1, () -> bit(t.corner(made, FAR, -FAR)));
    }

    private static void pathIndex() {
        ShapeTrees t = withCells(2, 3);
        for (int bad : new int[] {LOW, -1, 3, 20, HIGH}) {
            dueThrow("cell " + bad, INDEX, () -> t.path(bad, 0, 2, 0));
        }
        for (int bad : new int[] {LOW, -1, 2, 65536, HIGH}) {
            dueThrow("layer " + bad, INDEX, () -> t.path(0, bad, 2, 0));
        }
        due("the last cell and layer", 0, () -> t.path(2, 1, 2, 0));
    }

    private static void fullOfPaths() {
        ShapeTrees t = withCells(1, 1);
        for (int i = 0; i < 119; i++) {
            t.path(0, 0, 2, 0);
        }
        due("the last one", 119, () -> t.path(0, 0, 1000, 1));
        dueThrow("one more", STATE, () -> t.path(0, 0, 2, 0));
        t.drop(0);
        dueThrow("one more, one being dropped", STATE, () -> t.path(0, 0, 2, 0));
    }

    private static void noSuchWidthOrEnds() {
        ShapeTrees t = withCells(1, 1);
        for (long bad : new long[] {0, 1, 3, 999, 1001, 1002, -2, -4, 1L << 32, (1L << 32) + 2, Long.MIN_VALUE}) {
            dueThrow("width " + bad, ARGUMENT, () -> t.path(0, 0, bad, 1));
        }
        for (int bad : new int[] {-1, 2, 4, LOW, HIGH}) {
            dueThrow("ends " + bad, ARGUMENT, () -> t.path(0, 0, 1000, bad));
        }
        due("the least and flush: no number is lost", 0, () -> t.path(0, 0, 2, 0));
        due("the greatest and longer", 1, () -> t.path(0, 0, 1000, 1));
    }

    private static void differsInJustOne() {
        ShapeTrees t = withCells(1, 1);
        int made = t.path(0, 0, 2, 0);
        due("the first one always is", 1, () -> bit(t.point(made, 0, 0)));
        due("in neither", 0, () -> bit(t.point(made, 0, 0)));
        due("in both", 0, () -> bit(t.point(made, 1, 1)));
        due("in both, by the most", 0, () -> bit(t.point(made, FAR, -FAR)));
        due("in x", 1, () -> bit(t.point(made, 1, 0)));
        due("in y", 1, () -> bit(t.point(made, 1, 1)));
        due("in x, back", 1, () -> bit(t.point(made, 0, 1)));
        due("in y, back to the first", 1, () -> bit(t.point(made, 0, 0)));
        due("laid flat", 1, () -> t.flat(0, 0));
        dueCorners(t, "none of the refused", 0, 0, 0, 1, 0, 1, 1, 0, 1, 0, 0);
        int other = t.path(0, 0, 2, 0);
        due("the first one of another path always is", 1, () -> bit(t.point(other, 7, 7)));
    }

    private static void noPath() {
        ShapeTrees t = withCells(1, 1);
        int polygon = polygon(t, 0, 0, TRIANGLE);
        int dropped = path(t, 0, 0, 2, 0, 0, 0, 0, 5);
        int empty = t.path(0, 0, 2, 0);
        t.drop(dropped);
        t.drop(empty);
        dueThrow("a polygon", INDEX, () -> bit(t.point(polygon, 0, 5)));
        dueThrow("a dropped one", INDEX, () -> bit(t.point(dropped, 0, 6)));
        dueThrow("a dropped one, the latest point", INDEX, () -> bit(t.point(dropped, 0, 5)));
        dueThrow("a dropped one that was empty", INDEX, () -> bit(t.point(empty, 1, 1)));
        for (int bad : new int[] {LOW, -1, 3, 120, HIGH}) {
            dueThrow("path " + bad, INDEX, () -> bit(t.point(bad, 0, 0)));
        }
        due("the polygon alone", 1, () -> t.flat(0, 0));
        dueCorners(t, "the polygon is as it was", 0, TRIANGLE);
    }

    private static void has24Points() {
        ShapeTrees t = withCells(1, 1);
        int made = t.path(0, 0, 2, 1);
        for (int i = 0; i < 23; i++) {
            t.point(made, (i + 1) / 2, i / 2);
        }
        due("a refused one, with 23", 0, () -> bit(t.point(made, 12, 12)));
        due("the 24th", 1, () -> bit(t.point(made, 12, 11)));
        dueThrow("a 25th", STATE, () -> bit(t.point(made, 12, 12)));
        dueThrow("the latest again, with 24", STATE, () -> bit(t.point(made, 12, 11)));
        dueThrow("one that differs in both, with 24", STATE, () -> bit(t.point(made, 1, 1)));
    }

    private static void pointRange() {
        ShapeTrees t = withCells(1, 1);
        int made = t.path(0, 0, 2, 0);
        for (long bad : TOO_FAR) {
            dueThrow("the first, x " + bad, ARGUMENT, () -> bit(t.point(made, bad, 0)));
            dueThrow("the first, y " + bad, ARGUMENT, () -> bit(t.point(made, 0, bad)));
        }
        due("the first is still to come", 1, () -> bit(t.point(made, FAR, -FAR)));
        for (long bad : TOO_FAR) {
            dueThrow("another x, " + bad, ARGUMENT, () -> bit(t.point(made, bad, -FAR)));
            dueThrow("another y, " + bad, ARGUMENT, () -> bit(t.point(made, FAR, bad)));
            dueThrow("both, " + bad, ARGUMENT, () -> bit(t.point(made, bad, bad)));
        }
        due("the other end", 1, () -> bit(t.point(made, -FAR, -FAR)));
    }

    private static void placeIndex() {
        ShapeTrees t = withCells(1, 3);
        for (int bad : new int[] {LOW, -1, 3, 20, HIGH}) {
            dueThrow("cell " + bad, INDEX, () -> t.place(bad, 0, 0, 0, 0));
            dueThrow("of " + bad, INDEX, () -> t.place(0, bad, 0, 0, 0));
            dueThrow(bad + " in itself", INDEX, () -> t.place(bad, bad, 0, 0, 0));
        }
        due("the first in the last", 0, () -> t.place(2, 0, 0, 0, 0));
        due("the last in one between", 1, () -> t.place(1, 2, 0, 0, 0));
    }

    private static void fullOfPlaces() {
        ShapeTrees t = withCells(1, 3);
        for (int i = 0; i < 79; i++) {
            t.place(0, 1, 0, 0, 0);
        }
        due("NONE before it is full", -1, () -> t.place(1, 0, 0, 0, 0));
        due("the last one", 79, () -> t.place(0, 1, 0, 0, 0));
        dueThrow("one more", STATE, () -> t.place(0, 1, 0, 0, 0));
        dueThrow("one more in another cell", STATE, () -> t.place(1, 2, 0, 0, 0));
        polygon(t, 1, 0, TRIANGLE);
        due("eighty laid flat", 80, () -> t.flat(0, 0));
    }

    private static void placeRange() {
        ShapeTrees t = withCells(1, 2);
        for (long bad : TOO_FAR) {
            dueThrow("x " + bad, ARGUMENT, () -> t.place(0, 1, bad, 0, 0));
            dueThrow("y " + bad, ARGUMENT, () -> t.place(0, 1, 0, bad, 0));
        }
        for (int bad : new int[] {LOW, -4, -1, 8, 12, 256, HIGH}) {
            dueThrow("turn " + bad, ARGUMENT, () -> t.place(0, 1, 0, 0, bad));
        }
        polygon(t, 1, 0, FAR, FAR, FAR - 1, FAR, FAR, FAR - 1);
        due("the least x, the greatest y, the last turn", 0, () -> t.place(0, 1, -FAR, FAR, 7));
        due("the greatest x, the least y, the first turn", 1, () -> t.place(0, 1, FAR, -FAR, 0));
        due("laid flat", 2, () -> t.flat(0, 0));
        dueCorners(t, "far out", 0, -2 * FAR, 0, -2 * FAR, 1, 1 - 2 * FAR, 0);
        dueCorners(t, "far out on the other side", 1, 2 * FAR, 0, 2 * FAR - 1, 0, 2 * FAR, -1);
    }

    private static void noneInItself() {
        ShapeTrees t = withCells(1, 5);
        due("directly", -1, () -> t.place(0, 0, 0, 0, 0));
        t.place(0, 1, 0, 0, 0);
        due("the other way", -1, () -> t.place(1, 0, 0, 0, 0));
        t.place(1, 2, 0, 0, 0);
        due("over one", -1, () -> t.place(2, 0, 0, 0, 0));
        t.place(3, 0, 0, 0, 0);
        t.place(2, 4, 0, 0, 0);
        due("over three", -1, () -> t.place(4, 3, 0, 0, 0));
        due("what has the same in it is fine", 4, () -> t.place(3, 2, 0, 0, 0));
        due("an empty cell in the middle is one, too", -1, () -> t.place(2, 1, 0, 0, 0));
        dueThrow("none of them has a number", INDEX, () -> t.array(5, 1, 1, 0, 0));
        polygon(t, 4, 0, TRIANGLE);
        due("laid flat", 2, () -> t.flat(3, 0));
    }

    /** What would be in itself and throws as well, throws. */
    private static void noneBehindWhatIsThrown() {
        ShapeTrees t = withCells(1, 2);
        dueThrow("x too great", ARGUMENT, () -> t.place(0, 0, FAR + 1, 0, 0));
        dueThrow("y too small", ARGUMENT, () -> t.place(0, 0, 0, -FAR - 1, 0));
        dueThrow("no such turn", ARGUMENT, () -> t.place(0, 0, 0, 0, 8));
        for (int i = 0; i < 80; i++) {
            t.place(0, 1, 0, 0, 0);
        }
        dueThrow("full", STATE, () -> t.place(1, 0, 0, 0, 0));
        dueThrow("full, directly", STATE, () -> t.place(1, 1, 0, 0, 0));
    }

    private static void inPlaceOfTheOneBefore() {
        ShapeTrees t = withCells(1, 2);
        polygon(t, 0, 0, TRIANGLE);
        t.place(1, 0, 0, 0, 0);
        due("the first", 6, () -> t.array(0, 3, 2, 10, 20));
        due("another one, not of the one before", 4, () -> t.array(0, 2, 2, 5, 5));
        due("laid flat", 4, () -> t.flat(1, 0));
        dueCorners(t, "the last of it", 3, 5, 5, 6, 5, 5, 6);
        due("a single one", 1, () -> t.array(0, 1, 1, 5, 5));
        due("laid flat once", 1, () -> t.flat(1, 0));
        dueBox(t, "a single one", 1, 0, 0, 0, 1, 1);
    }

    private static void arrayIndex() {
        ShapeTrees t = withCells(1, 2);
        t.place(0, 1, 0, 0, 0);
        t.place(0, 1, 0, 0, 0);
        for (int bad : new int[] {LOW, -1, 2, 80, HIGH}) {
            dueThrow("place " + bad, INDEX, () -> t.array(bad, 1, 1, 0, 0));
        }
        due("the last place", 2, () -> t.array(1, 1, 2, 0, 0));
    }

    private static void columnsAndRows() {
        ShapeTrees t = withCells(1, 2);
        t.place(0, 1, 0, 0, 0);
        for (int bad : new int[] {LOW, -1, 0, 21, 1 << 16, HIGH}) {
            dueThrow("columns " + bad, ARGUMENT, () -> t.array(0, bad, 1, 0, 0));
            dueThrow("rows " + bad, ARGUMENT, () -> t.array(0, 1, bad, 0, 0));
            dueThrow("both " + bad, ARGUMENT, () -> t.array(0, bad, bad, 0, 0));
        }
        due("1 and 20", 20, () -> t.array(0, 1, 20, 0, 0));
        due("20 and 1", 20, () -> t.array(0, 20, 1, 0, 0));
        due("20 and 20", 400, () -> t.array(0, 20, 20, 0, 0));
        due("1 and 1", 1, () -> t.array(0, 1, 1, 0, 0));
    }

    private static void arrayRange() {
        ShapeTrees t = withCells(1, 2);
        t.place(0, 1, 0, 0, 0);
        for (long bad : TOO_FAR) {
            dueThrow("dx " + bad, ARGUMENT, () -> t.array(0, 2, 2, bad, 0));
            dueThrow("dy " + bad, ARGUMENT, () -> t.array(0, 2, 2, 0, bad));
            dueThrow("dx " + bad + " for one column", ARGUMENT, () -> t.array(0, 1, 1, bad, 0));
            dueThrow("dy " + bad + " for one row", ARGUMENT, () -> t.array(0, 1, 1, 0, bad));
        }
        polygon(t, 1, 0, TRIANGLE);
        due("the least and the greatest", 4, () -> t.array(0, 2, 2, -FAR, FAR));
        dueBox(t, "the least and the greatest", 0, 0, -FAR, 0, 1, FAR + 1);
        due("the other way round", 4, () -> t.array(0, 2, 2, FAR, -FAR));
        dueBox(t, "the other way round", 0, 0, 0, -FAR, FAR + 1, 1);
    }

    private static void sides() {
        ShapeTrees t = withCells(1, 1);
        polygon(t, 0, 0, 2, 30, 5, 10, 3, 70);
        dueBox(t, "four sides", 0, 0, 2, 10, 5, 70);
        for (int bad : new int[] {LOW, -1, 4, 5, HIGH}) {
            dueThrow("side " + bad, INDEX, () -> t.box(0, 0, bad));
        }
        for (int bad : new int[] {LOW, -1, 1, HIGH}) {
            dueThrow("cell " + bad, INDEX, () -> t.box(bad, 0, 0));
            dueThrow("layer " + bad, INDEX, () -> t.box(0, bad, 0));
        }
    }

    private static void noShapesThere() {
        ShapeTrees t = withCells(3, 3);
        dueNoBox(t, "a new cell", 0, 0);
        int other = polygon(t, 0, 1, TRIANGLE);
        t.place(1, 0, 0, 0, 0);
        dueNoBox(t, "shapes on the layer above only", 0, 0);
        dueNoBox(t, "shapes on the layer below only", 0, 2);
        dueNoBox(t, "a placed cell has none there", 1, 2);
        dueBox(t, "a placed cell has one here", 1, 1, 0, 0, 1, 1);
        polygon(t, 2, 0, 4, 4, 5, 5);
        path(t, 2, 0, 4, 1, 4, 4);
        dueNoBox(t, "empty ones only", 2, 0);
        t.drop(other);
        dueNoBox(t, "dropped", 0, 1);
        dueNoBox(t, "dropped in the placed cell", 1, 1);
    }

    private static void boxOfTooMany() {
        ShapeTrees t = withCells(1, 4);
        polygon(t, 0, 0, TRIANGLE);
        for (int i = 1; i < 4; i++) {
            t.place(i, i - 1, 0, 0, 0);
            t.array(i - 1, 20, 20, i, 100 * i);
        }
        dueBox(t, "64000000 shapes", 3, 0, 0, 0, 19 * 6 + 1, 1900 * 6 + 1);
    }

    private static void atHandThen() {
        ShapeTrees t = withCells(2, 2);
        polygon(t, 0, 0, TRIANGLE);
        polygon(t, 0, 1, 5, 5, 6, 5, 5, 6);
        due("none in another cell", 0, () -> t.flat(1, 0));
        dueThrow("none at hand", INDEX, () -> t.at(0, 0, 0));
        due("on layer 1", 1, () -> t.flat(0, 1));
        due("its corner", 5, () -> t.at(0, 0, 0));
        due("on layer 0", 1, () -> t.flat(0, 0));
        due("the other's corner", 0, () -> t.at(0, 0, 0));
        dueThrow("only that one", INDEX, () -> t.at(1, 0, 0));
        due("none again", 0, () -> t.flat(1, 1));
        dueThrow("none at hand again", INDEX, () -> t.at(0, 0, 0));
    }

    private static void flatIndex() {
        ShapeTrees t = withCells(2, 2);
        polygon(t, 1, 1, TRIANGLE);
        due("the last cell and layer", 1, () -> t.flat(1, 1));
        for (int bad : new int[] {LOW, -1, 2, HIGH}) {
            dueThrow("cell " + bad, INDEX, () -> t.flat(bad, 0));
            dueThrow("layer " + bad, INDEX, () -> t.flat(0, bad));
        }
        due("what was at hand still is", 1, () -> t.at(0, 1, 0));
    }

    /** Of 3000 shapes the first and the last are at hand; one more, be it on another layer, is too many. */
    private static void flatTooMany() {
        ShapeTrees t = withCells(2, 3);
        polygon(t, 0, 0, TRIANGLE);
        t.place(1, 0, 0, 0, 0);
        t.array(0, 20, 15, 1, 100);
        t.place(2, 1, 0, 0, 0);
        t.array(1, 10, 1, 1000, 0);
        due("3000 on one layer", 3000, () -> t.flat(2, 0));
        due("the first", 0, () -> t.at(0, 0, 0));
        due("the last, x", 9019, () -> t.at(2999, 0, 0));
        due("the last, y", 1400, () -> t.at(2999, 0, 1));
        dueThrow("no more", INDEX, () -> t.at(3000, 0, 0));
        due("none on the other", 0, () -> t.flat(2, 1));
        polygon(t, 2, 1, TRIANGLE);
        dueThrow("3001, one on the layer", UNSUPPORTED, () -> t.flat(2, 1));
        dueThrow("3001, 3000 on the layer", UNSUPPORTED, () -> t.flat(2, 0));
        t.array(1, 9, 1, 1000, 0);
        due("2701, one on the layer", 1, () -> t.flat(2, 1));
    }

    private static void asItWas() {
        ShapeTrees t = withCells(1, 2);
        int triangle = polygon(t, 0, 0, TRIANGLE);
        int line = path(t, 0, 0, 4, 0, 0, 0, 0, 9);
        t.place(1, 0, 10, 10, 0);
        t.flat(1, 0);
        t.corner(triangle, 7, 7);
        t.point(line, 5, 9);
        t.array(0, 3, 3, 1, 1);
        t.place(0, t.cell(), 5, 5, 2);
        dueCorners(t, "grown since", 0, 10, 10, 11, 10, 10, 11);
        dueCorners(t, "a path grown since", 1, 10, 10, 10, 19);
        dueThrow("no more of them since", INDEX, () -> t.at(2, 0, 0));
        t.drop(triangle);
        t.drop(line);
        dueCorners(t, "dropped since", 0, 10, 10, 11, 10, 10, 11);
        dueCorners(t, "a path dropped since", 1, 10, 10, 10, 19);
        t.equalTo(1);
        t.find(1, -FAR, -FAR, FAR, FAR);
        dueCorners(t, "others laid flat by find and equalTo", 0, 10, 10, 11, 10, 10, 11);
        due("laid flat anew", 0, () -> t.flat(1, 0));
        dueThrow("none is at hand", INDEX, () -> t.at(0, 0, 0));
    }

    private static void noSuchCornerOrAxis() {
        ShapeTrees t = withCells(1, 1);
        polygon(t, 0, 0, 3, 4, 5, 6, 7, 9);
        path(t, 0, 0, 2, 0, 1, 2, 1, 8);
        t.flat(0, 0);
        for (int bad : new int[] {LOW, -1, 2, 3000, HIGH}) {
            dueThrow("shape " + bad, INDEX, () -> t.at(bad, 0, 0));
        }
        for (int bad : new int[] {LOW, -1, 3, 23, 24, HIGH}) {
            dueThrow("corner " + bad, INDEX, () -> t.at(0, bad, 0));
        }
        for (int bad : new int[] {LOW, -1, 2, 24, HIGH}) {
            dueThrow("point " + bad, INDEX, () -> t.at(1, bad, 1));
        }
        for (int bad : new int[] {LOW, -1, 2, 3, HIGH}) {
            dueThrow("axis " + bad, INDEX, () -> t.at(0, 0, bad));
        }
        due("the last corner, x", 7, () -> t.at(0, 2, 0));
        due("the last corner, y", 9, () -> t.at(0, 2, 1));
        due("the last point, x", 1, () -> t.at(1, 1, 0));
        due("the last point, y", 8, () -> t.at(1, 1, 1));
    }

    private static void leastCellBelow() {
        ShapeTrees t = withCells(1, 5);
        due("none is below the first", -1, () -> t.equalTo(0));
        for (int i = 1; i < 5; i++) {
            polygon(t, i, 0, i, i, i + 1, i, i, i + 1);
        }
        due("one below, which is not equal", -1, () -> t.equalTo(1));
        due("the next below", 1, () -> t.equalTo(2));
        due("the least of three", 1, () -> t.equalTo(4));
        polygon(t, 0, 0, TRIANGLE);
        due("the very first", 0, () -> t.equalTo(4));
        due("those above do not count", -1, () -> t.equalTo(0));
        for (int bad : new int[] {LOW, -1, 5, 20, HIGH}) {
            dueThrow("cell " + bad, INDEX, () -> t.equalTo(bad));
        }
    }

    private static void tooManyOfItOrBelow() {
        ShapeTrees t = withCells(1, 5);
        polygon(t, 0, 0, TRIANGLE);
        polygon(t, 1, 0, TRIANGLE);
        polygon(t, 3, 0, TRIANGLE);
        arrayPlace(t, 4, 0, 20, 20);
        arrayPlace(t, 2, 4, 8, 1);
        due("too many above it", 0, () -> t.equalTo(1));
        dueThrow("of it", UNSUPPORTED, () -> t.equalTo(2));
        dueThrow("of one below, though one below that is equal", UNSUPPORTED, () -> t.equalTo(3));
        dueThrow("of one below, which has the cell in it", UNSUPPORTED, () -> t.equalTo(4));
        due("none below the first", -1, () -> t.equalTo(0));
        t.array(1, 7, 1, 0, 0);
        due("not too many any more", 0, () -> t.equalTo(3));
        due("2800 in the one below", -1, () -> t.equalTo(4));
        ShapeTrees u = withCells(1, 4);
        polygon(u, 3, 0, TRIANGLE);
        arrayPlace(u, 2, 3, 20, 20);
        arrayPlace(u, 0, 2, 8, 1);
        dueThrow("of the very first", UNSUPPORTED, () -> u.equalTo(0));
        dueThrow("of the very first below one without shapes", UNSUPPORTED, () -> u.equalTo(1));
        dueThrow("of the very first below the last", UNSUPPORTED, () -> u.equalTo(3));
    }

    private static void pointInCommon() {
        ShapeTrees t = withCells(3, 1);
        polygon(t, 0, 0, 10, 20, 30, 20, 30, 40);
        long[][] touching = {{10, 20, 10, 20}, {10, 40, 10, 40}, {30, 20, 30, 20}, {30, 40, 30, 40}, {0, 0, 10, 20},
            {30, 40, 99, 99}, {0, 40, 10, 99}, {30, 0, 99, 20}, {15, 25, 16, 26}, {0, 0, 99, 99}, {20, 0, 20, 99},
            {0, 30, 99, 30}, {10, 20, 30, 40}, {11, 39, 11, 39}, {-FAR, -FAR, FAR, FAR}};
        long[][] apart = {{9, 20, 9, 40}, {31, 20, 31, 40}, {10, 19, 30, 19}, {10, 41, 30, 41}, {0, 0, 9, 19},
            {31, 41, 99, 99}, {-FAR, -FAR, 9, FAR}, {31, -FAR, FAR, FAR}, {-FAR, -FAR, FAR, 19}, {-FAR, 41, FAR, FAR}};
        for (long[] b : touching) {
            due("touching " + b[0] + " " + b[1] + " " + b[2] + " " + b[3], 1, () -> t.find(0, b[0], b[1], b[2], b[3]));
        }
        for (long[] b : apart) {
            due("apart " + b[0] + " " + b[1] + " " + b[2] + " " + b[3], 0, () -> t.find(0, b[0], b[1], b[2], b[3]));
        }
        polygon(t, 0, 2, 30, 20, 50, 20, 50, 40);
        path(t, 0, 1, 2, 1, 30, 42, 30, 60);
        due("on all layers", 3, () -> t.find(0, -FAR, -FAR, FAR, FAR));
        due("on two layers, by a path's end", 3, () -> t.find(0, 30, 40, 30, 41));
        due("both polygons' edges, not the path", 2, () -> t.find(0, 30, 40, 30, 40));
    }

    private static void findRange() {
        ShapeTrees t = withCells(1, 1);
        polygon(t, 0, 0, TRIANGLE);
        dueThrow("x0 above x1 by 1", ARGUMENT, () -> t.find(0, 1, 0, 0, 0));
        dueThrow("y0 above y1 by 1", ARGUMENT, () -> t.find(0, 0, 1, 0, 0));
        dueThrow("x0 above x1 by the most", ARGUMENT, () -> t.find(0, FAR, 0, -FAR, 0));
        dueThrow("y0 above y1 by the most", ARGUMENT, () -> t.find(0, 0, FAR, 0, -FAR));
        due("x0 is x1 and y0 is y1", 1, () -> t.find(0, 1, 1, 1, 1));
        for (long bad : TOO_FAR) {
            dueThrow("x0 " + bad, ARGUMENT, () -> t.find(0, bad, 0, FAR, 0));
            dueThrow("y0 " + bad, ARGUMENT, () -> t.find(0, 0, bad, 0, FAR));
            dueThrow("x1 " + bad, ARGUMENT, () -> t.find(0, -FAR, 0, bad, 0));
            dueThrow("y1 " + bad, ARGUMENT, () -> t.find(0, 0, -FAR, 0, bad));
            dueThrow("x0 and x1 " + bad, ARGUMENT, () -> t.find(0, bad, 0, bad, 0));
            dueThrow("y0 and y1 " + bad, ARGUMENT, () -> t.find(0, 0, bad, 0, bad));
        }
        due("the largest box", 1, () -> t.find(0, -FAR, -FAR, FAR, FAR));
        due("the farthest corner", 0, () -> t.find(0, FAR, FAR, FAR, FAR));
        due("the other one", 0, () -> t.find(0, -FAR, -FAR, -FAR, -FAR));
        for (int bad : new int[] {LOW, -1, 1, HIGH}) {
            dueThrow("cell " + bad, INDEX, () -> t.find(bad, 0, 0, 0, 0));
        }
    }

    private static void findTooMany() {
        ShapeTrees t = withCells(2, 3);
        polygon(t, 0, 0, TRIANGLE);
        polygon(t, 0, 1, TRIANGLE);
        polygon(t, 0, 1, TRIANGLE);
        arrayPlace(t, 1, 0, 20, 5);
        int outer = arrayPlace(t, 2, 1, 10, 1);
        due("3000", 3000, () -> t.find(2, 0, 0, 0, 0));
        due("3000, none in the box", 0, () -> t.find(2, 2, 2, 2, 2));
        int one = polygon(t, 2, 0, 7, 7, 8, 7, 7, 8);
        dueThrow("3001", UNSUPPORTED, () -> t.find(2, 0, 0, 0, 0));
        dueThrow("3001, few in the box", UNSUPPORTED, () -> t.find(2, 7, 7, 8, 8));
        t.drop(one);
        due("3000 again", 3000, () -> t.find(2, 0, 0, 0, 0));
        t.array(outer, 11, 1, 0, 0);
        dueThrow("3300", UNSUPPORTED, () -> t.find(2, 0, 0, 0, 0));
        due("a cell in it", 300, () -> t.find(1, 0, 0, 0, 0));
    }

    private static void whetherItWasThere() {
        ShapeTrees t = withCells(1, 1);
        int triangle = polygon(t, 0, 0, TRIANGLE);
        int line = path(t, 0, 0, 2, 0, 0, 0, 0, 9);
        int bare = t.polygon(0, 0);
        due("a polygon", 1, () -> bit(t.drop(triangle)));
        due("a path", 1, () -> bit(t.drop(line)));
        due("an empty one", 1, () -> bit(t.drop(bare)));
        for (int made : new int[] {triangle, line, bare}) {
            due("dropped before, " + made, 0, () -> bit(t.drop(made)));
            due("once more, " + made, 0, () -> bit(t.drop(made)));
        }
        due("none is there", 0, () -> t.flat(0, 0));
    }

    private static void numberNotGivenAgain() {
        ShapeTrees t = withCells(1, 2);
        t.polygon(0, 0);
        t.drop(0);
        due("after the only one", 1, () -> t.polygon(0, 0));
        t.drop(1);
        due("a path after a polygon", 2, () -> t.path(1, 0, 2, 0));
        due("the first is still dropped", 0, () -> bit(t.drop(0)));
        dueThrow("and no polygon", INDEX, () -> bit(t.corner(0, 0, 0)));
    }

    private static void thereNeverWasOne() {
        ShapeTrees t = withCells(1, 1);
        dueThrow("none at all", INDEX, () -> bit(t.drop(0)));
        t.polygon(0, 0);
        t.path(0, 0, 2, 0);
        for (int bad : new int[] {LOW, -1, 2, 119, 120, HIGH}) {
            dueThrow("shape " + bad, INDEX, () -> bit(t.drop(bad)));
        }
        due("the last one", 1, () -> bit(t.drop(1)));
        due("the first one", 1, () -> bit(t.drop(0)));
    }

    public static void main(String[] args) {
        Watch.start();
        test("1: No cells", PromiseBoundariesTest::noCells);
        test("1: so many layers (1, if they are below that, 65536, if above)", PromiseBoundariesTest::soManyLayers);
        test("1: nothing laid flat", PromiseBoundariesTest::nothingLaidFlat);
        test("2: IllegalStateException", PromiseBoundariesTest::fullOfCells);
        test("3: A new polygon without corners", PromiseBoundariesTest::withoutCorners);
        test("3: IndexOutOfBoundsException", PromiseBoundariesTest::polygonIndex);
        test("3: IllegalStateException", PromiseBoundariesTest::fullOfPolygons);
        test("4: whether it is another one than the latest", PromiseBoundariesTest::anotherThanTheLatest);
        test("4: (also: it is no polygon, or was dropped)", PromiseBoundariesTest::noPolygon);
        test("4: IllegalStateException: it has 24", PromiseBoundariesTest::has24Corners);
        test("4: IllegalArgumentException", PromiseBoundariesTest::cornerRange);
        test("5: IndexOutOfBoundsException", PromiseBoundariesTest::pathIndex);
        test("5: IllegalStateException", PromiseBoundariesTest::fullOfPaths);
        test("5: also no such width or ends", PromiseBoundariesTest::noSuchWidthOrEnds);
        test("6: whether it differs from the latest in just one", PromiseBoundariesTest::differsInJustOne);
        test("6: (also: it is no path, or was dropped)", PromiseBoundariesTest::noPath);
        test("6: IllegalStateException: it has 24", PromiseBoundariesTest::has24Points);
        test("6: IllegalArgumentException", PromiseBoundariesTest::pointRange);
        test("7: IndexOutOfBoundsException", PromiseBoundariesTest::placeIndex);
        test("7: IllegalStateException", PromiseBoundariesTest::fullOfPlaces);
        test("7: IllegalArgumentException: also no such turn", PromiseBoundariesTest::placeRange);
        test("7: NONE if that would be in itself", PromiseBoundariesTest::noneInItself);
        test("7: NONE (behind what is thrown)", PromiseBoundariesTest::noneBehindWhatIsThrown);
        test("8: (in place of the one before)", PromiseBoundariesTest::inPlaceOfTheOneBefore);
        test("8: IndexOutOfBoundsException", PromiseBoundariesTest::arrayIndex);
        test("8: columns or rows are not 1 .. 20", PromiseBoundariesTest::columnsAndRows);
        test("8: or dx, dy out of range", PromiseBoundariesTest::arrayRange);
        test("9: side = 0 .. 3", PromiseBoundariesTest::sides);
        test("9: IllegalStateException: it has no shapes there", PromiseBoundariesTest::noShapesThere);
        test("9: The box of a cell, however many shapes it has", PromiseBoundariesTest::boxOfTooMany);
        test("10: its shapes on a layer are at hand then", PromiseBoundariesTest::atHandThen);
        test("10: IndexOutOfBoundsException", PromiseBoundariesTest::flatIndex);
        test("10: UnsupportedOperationException", PromiseBoundariesTest::flatTooMany);
        test("11: (as it was when it was laid flat)", PromiseBoundariesTest::asItWas);
        test("11: also when there is no such corner or axis", PromiseBoundariesTest::noSuchCornerOrAxis);
        test("12: The least cell below that is equal to a cell; NONE", PromiseBoundariesTest::leastCellBelow);
        test("12: of it, or of any one below", PromiseBoundariesTest::tooManyOfItOrBelow);
        test("13: a point in common with another box (its edges, too)", PromiseBoundariesTest::pointInCommon);
        test("13: x0 is above x1, or y0 above y1, or one is out of range", PromiseBoundariesTest::findRange);
        test("13: UnsupportedOperationException", PromiseBoundariesTest::findTooMany);
        test("14: whether it was there", PromiseBoundariesTest::whetherItWasThere);
        test("14: (its number is not given again)", PromiseBoundariesTest::numberNotGivenAgain);
        test("14: IndexOutOfBoundsException: there never was one", PromiseBoundariesTest::thereNeverWasOne);
        end();
    }
}
