/** A test for each sentence of the document's 'Terms' that names a boundary case; the tests bear its words. */
public final class TermsBoundariesTest extends Dues {

    private static void fullRun() {
        ShapeTrees t = withCells(1, 20);
        for (int i = 0; i < 19; i++) {
            arrayPlace(t, i + 1, i, 1, 1);
        }
        for (int i = 0; i < 100; i++) {
            polygon(t, 0, 0, i, 0, i + 1, 0, i, 1);
        }
        due("call 459", 100, () -> t.flat(19, 0));
        for (int call = 460; call < 511; call++) {
            int rows = call % 20 + 1;
            due("call " + call, 2 * rows, () -> t.array(0, 2, rows, 0, 0));
        }
        due("call 511", 99, () -> t.at(99, 0, 0));
        due("call 512", 2200, () -> t.find(19, 0, 0, 100, 100));
    }

    private static void cells() {
        ShapeTrees t = new ShapeTrees(1);
        for (int i = 0; i < 20; i++) {
            int n = i;
            dueThrow("polygon in cell " + n + ", not yet made", INDEX, () -> t.polygon(n, 0));
            due("cell " + n, n, t::cell);
            due("polygon in cell " + n, n, () -> t.polygon(n, 0));
        }
        dueThrow("cell 20", STATE, t::cell);
        dueThrow("polygon in cell 20", INDEX, () -> t.polygon(20, 0));
        dueThrow("polygon in cell -1", INDEX, () -> t.polygon(-1, 0));
    }

    private static void shapes() {
        ShapeTrees t = withCells(1, 2);
        for (int i = 0; i < 120; i++) {
            int n = i;
            due("shape " + n, n, () -> n % 3 == 0 ? t.path(n % 2, 0, 2, 0) : t.polygon(n % 2, 0));
        }
        due("the last is a polygon", 1, () -> bit(t.corner(119, 0, 0)));
        due("one before is a path", 1, () -> bit(t.point(117, 0, 0)));
        dueThrow("polygon 120", STATE, () -> t.polygon(1, 0));
        dueThrow("path 120", STATE, () -> t.path(1, 0, 2, 0));
        dueThrow("corner of 120", INDEX, () -> bit(t.corner(120, 0, 0)));
    }

    private static void layersOf(int layers) {
        ShapeTrees t = withCells(layers, 1);
        polygon(t, 0, 0, TRIANGLE);
        path(t, 0, layers - 1, 2, 0, 0, 0, 0, 5);
        due(layers + " layers, the first", layers == 1 ? 2 : 1, () -> t.flat(0, 0));
        due(layers + " layers, the last", layers == 1 ? 2 : 1, () -> t.flat(0, layers - 1));
        due(layers + " layers, box on the last", 5, () -> t.box(0, layers - 1, 3));
        for (int bad : new int[] {LOW, -1, layers, HIGH}) {
            String what = layers + " layers, layer " + bad + " of ";
            dueThrow(what + "polygon", INDEX, () -> t.polygon(0, bad));
            dueThrow(what + "path", INDEX, () -> t.path(0, bad, 2, 0));
            dueThrow(what + "box", INDEX, () -> t.box(0, bad, 0));
            dueThrow(what + "flat", INDEX, () -> t.flat(0, bad));
        }
    }

    private static void layers() {
        for (int layers : new int[] {1, 2, 3, 65535, 65536}) {
            layersOf(layers);
        }
    }

    private static void upTo24() {
        ShapeTrees t = withCells(1, 1);
        int polygon = t.polygon(0, 0);
        int path = t.path(0, 0, 2, 0);
        for (int i = 0; i < 24; i++) {
            int n = i;
            due("corner " + n, 1, () -> bit(t.corner(polygon, n, -n)));
            due("point " + n, 1, () -> bit(t.point(path, 0, n)));
        }
        dueThrow("corner 24", STATE, () -> bit(t.corner(polygon, 24, -24)));
        dueThrow("point 24", STATE, () -> bit(t.point(path, 0, 24)));
        due("both laid flat", 2, () -> t.flat(0, 0));
        due("corner 23 at hand", -23, () -> t.at(0, 23, 1));
        due("point 23 at hand", 23, () -> t.at(1, 23, 1));
        dueThrow("corner 24 at hand", INDEX, () -> t.at(0, 24, 0));
        dueThrow("point 24 at hand", INDEX, () -> t.at(1, 24, 0));
    }

    /** Of 24 calls that answer false none takes a corner's or a point's room. */
    private static void upTo24WithRefused() {
        ShapeTrees t = withCells(1, 1);
        int polygon = t.polygon(0, 0);
        int path = t.path(0, 0, 2, 0);
        for (int i = 0; i < 24; i++) {
            int n = i;
            due("corner " + n, 1, () -> bit(t.corner(polygon, n, 0)));
            due("point " + n, 1, () -> bit(t.point(path, n, 0)));
            if (n < 23) {
                due("corner " + n + " again", 0, () -> bit(t.corner(polygon, n, 0)));
                due("point " + n + " again", 0, () -> bit(t.point(path, n, 0)));
            }
        }
        due("corners at the end", 2, () -> t.flat(0, 0));
        due("the last corner", 23, () -> t.at(0, 23, 0));
        due("the last point", 23, () -> t.at(1, 23, 0));
    }

    private static void range() {
        ShapeTrees t = withCells(1, 2);
        int polygon = t.polygon(0, 0);
        int path = t.path(1, 0, 2, 0);
        for (long bad : TOO_FAR) {
            dueThrow("corner's x " + bad, ARGUMENT, () -> bit(t.corner(polygon, bad, 0)));
            dueThrow("corner's y " + bad, ARGUMENT, () -> bit(t.corner(polygon, 0, bad)));
            dueThrow("point's x " + bad, ARGUMENT, () -> bit(t.point(path, bad, 0)));
            dueThrow("point's y " + bad, ARGUMENT, () -> bit(t.point(path, 0, bad)));
        }
        due("the least of both", 1, () -> bit(t.corner(polygon, -FAR, -FAR)));
        due("the greatest of both", 1, () -> bit(t.corner(polygon, FAR, FAR)));
        due("least and greatest", 1, () -> bit(t.corner(polygon, -FAR, FAR)));
        due("greatest and least", 1, () -> bit(t.corner(polygon, FAR, -FAR)));
        due("the least point", 1, () -> bit(t.point(path, -FAR, -FAR)));
        due("greatest x", 1, () -> bit(t.point(path, FAR, -FAR)));
        due("greatest y", 1, () -> bit(t.point(path, FAR, FAR)));
        dueBox(t, "the largest polygon", 0, 0, -FAR, -FAR, FAR, FAR);
        dueBox(t, "a path's width goes beyond", 1, 0, -FAR, -FAR - 1, FAR + 1, FAR);
    }

    /** Whether the only shape of cell 0, which is also placed in cell 1, is there for each call that asks. */
    private static void dueThere(ShapeTrees t, String what, int there) {
        for (int cell = 0; cell < 2; cell++) {
            int n = cell;
            due(what + ", flat of cell " + n, there, () -> t.flat(n, 0));
            due(what + ", find in cell " + n, there, () -> t.find(n, -FAR, -FAR, FAR, FAR));
            if (there == 0) {
                dueNoBox(t, what + ", cell " + n, n, 0);
            } else {
                due(what + ", box of cell " + n, 10 * n, () -> t.box(n, 0, 0));
            }
        }
        due(what + ", equal to a cell without any", there == 0 ? 0 : -1, () -> t.equalTo(2));
    }

    private static void emptyPolygon() {
        ShapeTrees t = withCells(1, 3);
        t.place(1, 0, 10, 0, 0);
        int made = t.polygon(0, 0);
        dueThere(t, "no corners", 0);
        due("corner() all the same", 1, () -> bit(t.corner(made, 0, 0)));
        dueThere(t, "one corner", 0);
        due("corner() with one", 1, () -> bit(t.corner(made, 3, 0)));
        dueThere(t, "two corners", 0);
        due("a refused one", 0, () -> bit(t.corner(made, 3, 0)));
        dueThere(t, "two and a refused one", 0);
        due("corner() with two", 1, () -> bit(t.corner(made, 0, 4)));
        dueThere(t, "three corners", 1);
    }

    private static void emptyPath() {
        ShapeTrees t = withCells(1, 3);
        t.place(1, 0, 10, 0, 0);
        int made = t.path(0, 0, 4, 0);
        dueThere(t, "no points", 0);
        due("point() all the same", 1, () -> bit(t.point(made, 0, 7)));
        dueThere(t, "one point", 0);
        due("a refused one", 0, () -> bit(t.point(made, 3, 8)));
        dueThere(t, "one and a refused one", 0);
        due("point() with one", 1, () -> bit(t.point(made, 9, 7)));
        dueThere(t, "two points", 1);
    }

    /** Empty ones stand between the others and yet take no place among what is laid flat. */
    private static void emptyBetween() {
        ShapeTrees t = withCells(1, 2);
        polygon(t, 0, 0, 1, 1, 2, 2);
        polygon(t, 0, 0, TRIANGLE);
        path(t, 0, 0, 2, 0, 5, 5);
        path(t, 0, 0, 2, 0, 5, 5, 5, 6);
        due("two of four", 2, () -> t.flat(0, 0));
        dueCorners(t, "the polygon", 0, TRIANGLE);
        dueCorners(t, "the path", 1, 5, 5, 5, 6);
        path(t, 1, 0, 2, 0, 5, 5, 5, 6);
        polygon(t, 1, 0, TRIANGLE);
        due("equal without the empty ones", 0, () -> t.equalTo(1));
    }

    private static void justOne() {
        ShapeTrees t = withCells(1, 1);
        int made = t.path(0, 0, 2, 0);
        due("the first", 1, () -> bit(t.point(made, 5, 5)));
        due("in none", 0, () -> bit(t.point(made, 5, 5)));
        due("in both", 0, () -> bit(t.point(made, 6, 4)));
        due("in x by 1", 1, () -> bit(t.point(made, 6, 5)));
        due("in y by 1", 1, () -> bit(t.point(made, 6, 4)));
        due("in x, as far as can be", 1, () -> bit(t.point(made, FAR, 4)));
        due("in x, by the most", 1, () -> bit(t.point(made, -FAR, 4)));
        due("in both from the latest, not from the first", 0, () -> bit(t.point(made, 5, 5)));
        due("back in x", 1, () -> bit(t.point(made, 5, 4)));
        due("laid flat", 1, () -> t.flat(0, 0));
        dueCorners(t, "all that are there", 0, 5, 5, 6, 5, 6, 4, FAR, 4, -FAR, 4, 5, 4);
    }

    private static void widths() {
        ShapeTrees t = withCells(1, 3);
        long[] wrong = {Long.MIN_VALUE, -1000, -2, -1, 0, 1, 3, 5, 999, 1001, 1002, (1L << 32) + 4, Long.MAX_VALUE};
        for (long bad : wrong) {
            dueThrow("width " + bad, ARGUMENT, () -> t.path(0, 0, bad, 0));
        }
        due("the least", 0, () -> t.path(0, 0, 2, 0));
        due("the next", 1, () -> t.path(1, 0, 4, 0));
        due("the greatest", 2, () -> t.path(2, 0, 1000, 0));
        for (int i = 0; i < 3; i++) {
            t.point(i, 0, 0);
            t.point(i, 8, 0);
        }
        dueBox(t, "the least", 0, 0, 0, -1, 8, 1);
        dueBox(t, "the next", 1, 0, 0, -2, 8, 2);
        dueBox(t, "the greatest", 2, 0, 0, -500, 8, 500);
    }

    private static void ends() {
        ShapeTrees t = withCells(1, 2);
        for (int bad : new int[] {LOW, -1, 2, 3, HIGH}) {
            dueThrow("ends " + bad, ARGUMENT, () -> t.path(0, 0, 4, bad));
        }
        path(t, 0, 0, 4, 0, 0, 0, 8, 0);
        path(t, 1, 0, 4, 1, 0, 0, 8, 0);
        dueBox(t, "flush", 0, 0, 0, -2, 8, 2);
        dueBox(t, "longer", 1, 0, -2, -2, 10, 2);
    }

    private static void boxOfPolygon() {
        ShapeTrees t = withCells(1, 4);
        polygon(t, 0, 0, 3, 3, -2, 7, 5, -4);
        dueBox(t, "each side by another corner", 0, 0, -2, -4, 5, 7);
        polygon(t, 1, 0, 2, 6, 9, 6, 4, 6);
        dueBox(t, "all on a line", 1, 0, 2, 6, 9, 6);
        polygon(t, 2, 0, 5, 1, 5, 2, 5, 1);
        dueBox(t, "there and back", 2, 0, 5, 1, 5, 2);
        int grown = polygon(t, 3, 0, 5, 5, 6, 5, 5, 6);
        t.corner(grown, -5, 5);
        dueBox(t, "grown to the left", 3, 0, -5, 5, 6, 6);
        t.corner(grown, 5, 40);
        dueBox(t, "grown upwards", 3, 0, -5, 5, 6, 40);
    }

    private static void dueBoxOfPath(String what, int ends, long[] points, long... sides) {
        ShapeTrees t = withCells(1, 1);
        path(t, 0, 0, 10, ends, points);
        dueBox(t, what, 0, 0, sides);
    }

    private static void boxOfPath() {
        dueBoxOfPath("right, flush", 0, new long[] {0, 0, 30, 0}, 0, -5, 30, 5);
        dueBoxOfPath("up, flush", 0, new long[] {0, 0, 0, 30}, -5, 0, 5, 30);
        dueBoxOfPath("right, longer", 1, new long[] {0, 0, 30, 0}, -5, -5, 35, 5);
        dueBoxOfPath("left, longer", 1, new long[] {0, 0, -30, 0}, -35, -5, 5, 5);
        dueBoxOfPath("up, longer", 1, new long[] {0, 0, 0, 30}, -5, -5, 5, 35);
        dueBoxOfPath("down, longer", 1, new long[] {0, 0, 0, -30}, -5, -35, 5, 5);
        dueBoxOfPath("a bend, flush: both pieces' sides", 0, new long[] {0, 0, 30, 0, 30, 40}, 0, -5, 35, 40);
        dueBoxOfPath("a bend, longer at both ends", 1, new long[] {0, 0, 30, 0, 30, 40}, -5, -5, 35, 45);
        dueBoxOfPath("not longer where it turns back", 1, new long[] {0, 0, 30, 0, 20, 0}, -5, -5, 30, 5);
        dueBoxOfPath("not longer in the middle", 1, new long[] {0, 0, 30, 0, 40, 0, 40, 3, 20, 3}, -5, -5, 45, 8);
        dueBoxOfPath("its last end is within it", 1, new long[] {0, 0, 0, 50, 0, 40}, -5, -5, 5, 50);
        dueBoxOfPath("its first end is within it", 1, new long[] {0, 10, 0, 0, 0, 40}, -5, 0, 5, 45);
    }

    private static void boxOfGrownPath() {
        ShapeTrees t = withCells(1, 1);
        int made = path(t, 0, 0, 10, 1, 0, 0, 30, 0);
        dueBox(t, "two points", 0, 0, -5, -5, 35, 5);
        t.point(made, 10, 0);
        dueBox(t, "the end is no more the end", 0, 0, -5, -5, 30, 5);
    }

    private static void places() {
        ShapeTrees t = withCells(1, 3);
        for (int i = 0; i < 80; i++) {
            int n = i;
            due("place " + n, n, () -> t.place(n % 2, 2, 0, 0, 0));
            due("array of place " + n, 1, () -> t.array(n, 1, 1, 0, 0));
            dueThrow("array of the next place", INDEX, () -> t.array(n + 1, 1, 1, 0, 0));
            if (n < 79) {
                due("NONE takes no number", -1, () -> t.place(2, n % 2, 0, 0, 0));
            }
        }
        dueThrow("place 80", STATE, () -> t.place(0, 2, 0, 0, 0));
        due("array of place 79", 4, () -> t.array(79, 2, 2, 0, 0));
        dueThrow("array of place -1", INDEX, () -> t.array(-1, 1, 1, 0, 0));
    }

    private static void turns() {
        long[][] turned = {{3, 1}, {-1, 3}, {-3, -1}, {1, -3}, {3, -1}, {1, 3}, {-3, 1}, {-1, -3}};
        ShapeTrees t = withCells(1, 2);
        polygon(t, 0, 0, 3, 1, 0, 0, 1, 0);
        for (int bad : new int[] {LOW, -8, -1, 8, 9, HIGH}) {
            dueThrow("turn " + bad, ARGUMENT, () -> t.place(1, 0, 0, 0, bad));
        }
        for (int turn = 0; turn < 8; turn++) {
            t.place(1, 0, 100, 1000, turn);
        }
        due("one for each turn", 8, () -> t.flat(1, 0));
        for (int turn = 0; turn < 8; turn++) {
            int n = turn;
            due("turn " + n + ", x", 100 + turned[n][0], () -> t.at(n, 0, 0));
            due("turn " + n + ", y", 1000 + turned[n][1], () -> t.at(n, 0, 1));
        }
    }

    /** Four quarters, and twice a mirror, are none. */
    private static void turnsOverTurns() {
        long[][] turned = {{3, 1}, {-1, 3}, {-3, -1}, {1, -3}, {3, -1}, {1, 3}, {-3, 1}, {-1, -3}};
        for (int outer = 0; outer < 8; outer++) {
            ShapeTrees t = withCells(1, 3);
            polygon(t, 0, 0, 3, 1, 0, 0, 1, 0);
            for (int inner = 0; inner < 8; inner++) {
                t.place(1, 0, 0, 0, inner);
            }
            t.place(2, 1, 0, 0, outer);
            due("all turns in turn " + outer, 8, () -> t.flat(2, 0));
            for (int inner = 0; inner < 8; inner++) {
                int n = inner;
                int both = (outer < 4 ? outer + inner : outer + 8 - inner) % 4 + (outer / 4 + inner / 4) % 2 * 4;
                due("turn " + n + " in turn " + outer + ", x", turned[both][0], () -> t.at(n, 0, 0));
                due("turn " + n + " in turn " + outer + ", y", turned[both][1], () -> t.at(n, 0, 1));
            }
        }
    }

    private static void arrays() {
        ShapeTrees t = withCells(1, 2);
        polygon(t, 0, 0, TRIANGLE);
        t.place(1, 0, 5, 7, 1);
        due("no array yet: once", 1, () -> t.flat(1, 0));
        due("one column and row", 1, () -> t.array(0, 1, 1, 100, 100));
        due("laid flat once", 1, () -> t.flat(1, 0));
        dueCorners(t, "not moved", 0, 5, 7, 5, 8, 4, 7);
        due("the most of both", 400, () -> t.array(0, 20, 20, FAR, -FAR));
        due("laid flat as often", 400, () -> t.flat(1, 0));
        long x = 5 + 19 * FAR;
        long y = 7 - 19 * FAR;
        dueCorners(t, "column 19, row 19", 399, x, y, x, y + 1, x - 1, y);
        dueCorners(t, "column 19, row 0", 19, x, 7, x, 8, x - 1, 7);
        dueCorners(t, "column 0, row 1", 20, 5, 7 - FAR, 5, 8 - FAR, 4, 7 - FAR);
        due("all at one place", 20, () -> t.array(0, 1, 20, 0, 0));
        due("laid flat twenty times", 20, () -> t.flat(1, 0));
        dueCorners(t, "the last of them", 19, 5, 7, 5, 8, 4, 7);
    }

    private static void notInItself() {
        ShapeTrees t = withCells(1, 20);
        due("the first in itself", -1, () -> t.place(0, 0, 0, 0, 0));
        due("the last in itself", -1, () -> t.place(19, 19, 0, 0, 0));
        for (int i = 0; i < 19; i++) {
            int n = i;
            due("a chain, " + (n + 1) + " in " + n, n, () -> t.place(n, n + 1, 0, 0, 0));
        }
        for (int i = 0; i < 20; i++) {
            int n = i;
            due("0 in " + n, -1, () -> t.place(n, 0, 0, 0, 0));
            due(n + " in 19", -1, () -> t.place(19, n, 0, 0, 0));
        }
        due("19 in 0, too", 19, () -> t.place(0, 19, 0, 0, 0));
        due("the same once more", 20, () -> t.place(0, 19, 0, 0, 0));
        polygon(t, 19, 0, TRIANGLE);
        due("over the chain and twice directly", 3, () -> t.flat(0, 0));
    }

    /** A cell over two ways in another one is not in itself. */
    private static void overTwoWays() {
        ShapeTrees t = withCells(1, 5);
        t.place(0, 1, 0, 0, 0);
        t.place(0, 2, 0, 0, 0);
        t.place(1, 3, 0, 0, 0);
        due("the other way to 3", 3, () -> t.place(2, 3, 0, 0, 0));
        due("all of it in 4", 4, () -> t.place(4, 0, 0, 0, 0));
        due("4 in 3, at the end of both ways", -1, () -> t.place(3, 4, 0, 0, 0));
        due("4 in 2, on the second way", -1, () -> t.place(2, 4, 0, 0, 0));
        polygon(t, 3, 0, TRIANGLE);
        due("laid flat", 2, () -> t.flat(4, 0));
    }

    private static void laidFlat() {
        ShapeTrees t = withCells(1, 4);
        int second = t.place(3, 1, 100, 0, 0);
        t.place(2, 0, 1000, 0, 0);
        t.place(3, 2, 200, 0, 0);
        t.place(3, 0, 300, 0, 0);
        long[][] at = {{7, 0}, {5, 0}, {9, 0}, {3, 0}, {1, 0}};
        int[] cells = {3, 0, 2, 1, 3};
        for (int i = 0; i < 5; i++) {
            polygon(t, cells[i], 0, at[i][0], 0, 0, 1, 0, 2);
        }
        polygon(t, 3, 0, 8, 0, 0, 1);
        t.array(second, 2, 3, 10, 20);
        due("all", 11, () -> t.flat(3, 0));
        long[] xs = {7, 1, 103, 113, 103, 113, 103, 113, 209, 1205, 305};
        long[] ys = {0, 0, 0, 0, 20, 20, 40, 40, 0, 0, 0};
        for (int i = 0; i < 11; i++) {
            int n = i;
            due("x of " + n, xs[n], () -> t.at(n, 0, 0));
            due("y of " + n, ys[n], () -> t.at(n, 0, 1));
        }
        dueThrow("no more", INDEX, () -> t.at(11, 0, 0));
    }

    private static void pathsKeep() {
        ShapeTrees t = withCells(1, 3);
        path(t, 0, 0, 10, 1, 0, 0, 30, 0);
        path(t, 0, 0, 10, 0, 0, 100, 0, 130);
        t.place(1, 0, 0, 0, 1);
        dueBox(t, "turned", 1, 0, -130, -5, 5, 35);
        due("the width, turned", 1, () -> t.find(1, 5, 20, 5, 20));
        due("beyond it", 0, () -> t.find(1, 6, 20, 6, 20));
        due("the longer end, turned", 1, () -> t.find(1, 0, 35, 0, 35));
        due("the flush end, turned", 0, () -> t.find(1, -131, 0, -131, 0));
        t.place(2, 1, 0, 0, 3);
        due("turned back: equal", 0, () -> t.equalTo(2));
    }

    private static void boxOfCell() {
        ShapeTrees t = withCells(2, 3);
        polygon(t, 0, 0, -5, 0, 0, 1, 0, 2);
        polygon(t, 0, 1, -50, 0, 0, 1, 0, 2);
        path(t, 1, 0, 4, 1, 0, 9, 4, 9);
        t.place(1, 0, 0, 0, 0);
        dueBox(t, "its own and the placed one, on the layer alone", 1, 0, -5, 0, 6, 11);
        dueBox(t, "the other layer", 1, 1, -50, 0, 0, 2);
        t.place(2, 1, 0, 0, 0);
        t.array(1, 20, 20, FAR, -FAR);
        dueBox(t, "a placed array, far out", 2, 0, -5, -19 * FAR, 6 + 19 * FAR, 11);
    }

    /** Cell 1 has a polygon with these corners, cell 0 the one to compare with. */
    private static void duePolygons(String what, boolean isEqual, long[] one, long... other) {
        ShapeTrees t = withCells(1, 2);
        polygon(t, 0, 0, one);
        polygon(t, 1, 0, other);
        due(what, isEqual ? 0 : -1, () -> t.equalTo(1));
    }

    private static void equalMoved() {
        long[] one = {0, 0, 3, 0, 3, 2};
        duePolygons("not at all", true, one, 0, 0, 3, 0, 3, 2);
        duePolygons("by 1", true, one, 1, 0, 4, 0, 4, 2);
        long[] farthest = {-FAR, -FAR, 3 - FAR, -FAR, 3 - FAR, 2 - FAR};
        duePolygons("as far as can be", true, farthest, FAR - 3, FAR - 2, FAR, FAR - 2, FAR, FAR);
        duePolygons("one corner of three", false, one, 0, 0, 3, 0, 4, 2);
        ShapeTrees t = withCells(2, 3);
        polygon(t, 0, 0, TRIANGLE);
        path(t, 0, 1, 10, 1, 50, 50, 60, 50);
        polygon(t, 1, 0, 7, 7, 8, 7, 7, 8);
        path(t, 1, 1, 10, 1, 57, 57, 67, 57);
        due("two layers, both moved", 0, () -> t.equalTo(1));
        polygon(t, 2, 0, TRIANGLE);
        path(t, 2, 1, 10, 1, 51, 50, 61, 50);
        due("two layers, one moved", -1, () -> t.equalTo(2));
    }

    /** The path's width is what lies farthest to the left and below, with one end more than with the other. */
    private static void equalByBoxes() {
        ShapeTrees t = withCells(1, 2);
        path(t, 0, 0, 100, 1, 0, 0, 10, 0);
        polygon(t, 0, 0, TRIANGLE);
        path(t, 1, 0, 100, 1, 20, 30, 10, 30);
        polygon(t, 1, 0, 11, 30, 10, 30, 10, 31);
        due("moved as a path's box is", 0, () -> t.equalTo(1));
    }

    private static void equalAsOften() {
        ShapeTrees t = withCells(1, 2);
        polygon(t, 0, 0, TRIANGLE);
        polygon(t, 0, 0, TRIANGLE);
        polygon(t, 0, 0, 0, 0, 1, 0, 1, 1);
        polygon(t, 1, 0, TRIANGLE);
        polygon(t, 1, 0, 0, 0, 1, 0, 1, 1);
        due("one less", -1, () -> t.equalTo(1));
        int last = polygon(t, 1, 0, 0, 0, 1, 0, 1, 1);
        due("as many, but another one twice", -1, () -> t.equalTo(1));
        t.drop(last);
        arrayPlace(t, 1, t.cell(), 2, 1);
        polygon(t, 2, 0, TRIANGLE);
        due("one more", -1, () -> t.equalTo(1));
        t.array(0, 1, 1, 0, 0);
        due("each as often", 0, () -> t.equalTo(1));
        ShapeTrees u = withCells(1, 2);
        polygon(u, 0, 0, 0, 0, 10, 0, 10, 10);
        polygon(u, 0, 0, 0, 5, 20, 0, 20, 10);
        polygon(u, 1, 0, 0, 5, 10, 0, 10, 10);
        polygon(u, 1, 0, 0, 0, 20, 0, 20, 10);
        due("all corners as often, but two have changed their polygons", -1, () -> u.equalTo(1));
    }

    private static void equalPolygons() {
        long[] one = {0, 0, 5, 0, 5, 4, 2, 3, 0, 4};
        for (int first = 0; first < 5; first++) {
            long[] on = new long[10];
            long[] back = new long[10];
            for (int i = 0; i < 5; i++) {
                for (int axis = 0; axis < 2; axis++) {
                    on[2 * i + axis] = one[2 * ((first + i) % 5) + axis];
                    back[2 * i + axis] = one[2 * ((first + 5 - i) % 5) + axis];
                }
            }
            duePolygons("from corner " + first + " on", true, one, on);
            duePolygons("from corner " + first + " back", true, one, back);
        }
        duePolygons("another order", false, one, 0, 0, 5, 0, 2, 3, 5, 4, 0, 4);
        duePolygons("the first once more at the end", false, one, 0, 0, 5, 0, 5, 4, 2, 3, 0, 4, 0, 0);
        duePolygons("one corner's y by 1", false, one, 0, 0, 5, 0, 5, 4, 2, 2, 0, 4);
        duePolygons("one corner's x by 1", false, one, 0, 0, 5, 0, 5, 4, 3, 3, 0, 4);
        duePolygons("another corner's y", false, new long[] {0, 0, 0, 9, 9, 5}, 0, 0, 0, 9, 9, 4);
        long[] two = {0, 0, 5, 0, 5, 4};
        duePolygons("mirrored", false, two, 5, 0, 0, 0, 0, 4);
        duePolygons("twice round", false, two, 0, 0, 5, 0, 5, 4, 0, 0, 5, 0, 5, 4);
        duePolygons("once round", false, new long[] {0, 0, 5, 0, 5, 4, 0, 0, 5, 0, 5, 4}, two);
        duePolygons("the least corner in the middle as well", true,
                new long[] {0, 0, 1, 1, 0, 0, 2, 2, 3, 0}, 0, 0, 3, 0, 2, 2, 0, 0, 1, 1);
    }

    /** Both cells have the third one in the same boxes, but for one of them. */
    private static void duePlaces(String what, boolean isEqual, long... xy) {
        ShapeTrees t = withCells(1, 3);
        polygon(t, 0, 0, 0, 0, 3, 0, 0, 5);
        t.place(1, 0, 0, 0, 2);
        t.place(1, 0, 7, 7, 2);
        t.place(1, 0, 20, 20, 2);
        for (int i = 0; i < xy.length; i += 2) {
            t.place(2, 0, xy[i], xy[i + 1], 2);
        }
        due(what, isEqual ? 1 : -1, () -> t.equalTo(2));
    }

    private static void equalPlaces() {
        duePlaces("in another order", true, 20, 20, 7, 7, 0, 0);
        duePlaces("one of them moved in x", false, 20, 20, 8, 7, 0, 0);
        duePlaces("one of them moved in y", false, 20, 20, 7, 8, 0, 0);
        duePlaces("one of them moved onto another", false, 20, 20, 20, 20, 0, 0);
        duePlaces("all moved", true, FAR, FAR, FAR - 20, FAR - 20, FAR - 13, FAR - 13);
    }

    private static void duePaths(String what, boolean isEqual, long width, int ends, long... other) {
        ShapeTrees t = withCells(1, 2);
        // The frame lets the boxes be the same, whatever the widths and ends are.
        polygon(t, 0, 0, -2000, -2000, 2000, -2000, 2000, 2000);
        path(t, 0, 0, 4, 0, 0, 0, 6, 0, 6, 6, 0, 6, 0, 0);
        polygon(t, 1, 0, -2000, -2000, 2000, -2000, 2000, 2000);
        path(t, 1, 0, width, ends, other);
        due(what, isEqual ? 0 : -1, () -> t.equalTo(1));
    }

    private static void equalPaths() {
        duePaths("the same order", true, 4, 0, 0, 0, 6, 0, 6, 6, 0, 6, 0, 0);
        duePaths("the other way round", true, 4, 0, 0, 0, 0, 6, 6, 6, 6, 0, 0, 0);
        duePaths("another one first", false, 4, 0, 6, 0, 6, 6, 0, 6, 0, 0, 6, 0);
        duePaths("one point less", false, 4, 0, 0, 0, 6, 0, 6, 6, 0, 6);
        duePaths("one point more, on the way", false, 4, 0, 0, 0, 3, 0, 6, 0, 6, 6, 0, 6, 0, 0);
        duePaths("another width", false, 6, 0, 0, 0, 6, 0, 6, 6, 0, 6, 0, 0);
        duePaths("the widest", false, 1000, 0, 0, 0, 6, 0, 6, 6, 0, 6, 0, 0);
        duePaths("other ends", false, 4, 1, 0, 0, 6, 0, 6, 6, 0, 6, 0, 0);
        ShapeTrees t = withCells(1, 2);
        path(t, 0, 0, 4, 0, 0, 0, 6, 0, 6, 6, 0, 6);
        path(t, 1, 0, 4, 0, 10, 6, 16, 6, 16, 0, 10, 0);
        due("open, the other way round and moved", 0, () -> t.equalTo(1));
    }

    private static void equalLayers() {
        ShapeTrees t = withCells(65536, 4);
        polygon(t, 0, 65535, TRIANGLE);
        polygon(t, 1, 65534, TRIANGLE);
        polygon(t, 2, 65535, TRIANGLE);
        polygon(t, 3, 0, TRIANGLE);
        due("the layer before the last", -1, () -> t.equalTo(1));
        due("the last layer", 0, () -> t.equalTo(2));
        due("the first layer", -1, () -> t.equalTo(3));
    }

    private static void equalWithoutShapes() {
        ShapeTrees t = withCells(2, 5);
        due("two new cells", 0, () -> t.equalTo(1));
        polygon(t, 1, 0, 3, 3, 4, 4);
        path(t, 1, 1, 4, 1, 7, 7);
        due("one with empty ones", 0, () -> t.equalTo(1));
        t.drop(polygon(t, 2, 1, TRIANGLE));
        due("one with a dropped one", 0, () -> t.equalTo(2));
        arrayPlace(t, 3, 2, 20, 20);
        due("one with an array of such", 0, () -> t.equalTo(3));
        polygon(t, 4, 0, TRIANGLE);
        due("one with a shape", -1, () -> t.equalTo(4));
    }

    /** Cells 2, 3 and 4 have 3000 shapes each, a third of them on each layer, and one that is empty at first. */
    private static void limitOfFlat() {
        ShapeTrees t = withCells(3, 5);
        for (int layer = 0; layer < 3; layer++) {
            polygon(t, 0, layer, layer, 0, layer + 1, 0, layer, 1);
        }
        arrayPlace(t, 1, 0, 20, 10);
        arrayPlace(t, 2, 1, 5, 1);
        int extra = polygon(t, 3, 1, 0, 0, 1, 0);
        arrayPlace(t, 3, 2, 1, 1);
        t.place(4, 3, 0, 0, 1);
        for (int cell = 2; cell < 5; cell++) {
            int n = cell;
            due("3000 on all layers, cell " + n, 1000, () -> t.flat(n, 0));
            due("found, cell " + n, 3000, () -> t.find(n, -9, -9, 9, 9));
            due("compared, cell " + n, n == 3 ? 2 : -1, () -> t.equalTo(n));
        }
        due("the last one at hand", 0, () -> t.at(999, 0, 0));
        t.corner(extra, 0, 1);
        for (int cell = 3; cell < 5; cell++) {
            int n = cell;
            dueThrow("3001, on a layer that has no more, cell " + n, UNSUPPORTED, () -> t.flat(n, 0));
            dueThrow("3001, on the layer that has more, cell " + n, UNSUPPORTED, () -> t.flat(n, 1));
            dueThrow("3001 searched, cell " + n, UNSUPPORTED, () -> t.find(n, 100, 100, 100, 100));
            dueThrow("3001 compared, cell " + n, UNSUPPORTED, () -> t.equalTo(n));
        }
        dueBox(t, "3001 have a box all the same", 3, 2, 2, 0, 3, 1);
        dueBox(t, "3001 that are turned", 4, 2, -1, 2, 0, 3);
        due("3000 below it", 1000, () -> t.flat(2, 2));
        t.drop(extra);
        due("3000 again", 1000, () -> t.flat(4, 1));
    }

    /** A number of shapes that is 0 or small again when only its lower half is kept. */
    private static void limitOfFlatWrapped() {
        ShapeTrees t = withCells(1, 20);
        polygon(t, 0, 0, TRIANGLE);
        for (int i = 1; i < 20; i++) {
            arrayPlace(t, i, i - 1, 16, 16);
        }
        due("256", 256, () -> t.flat(1, 0));
        for (int i = 2; i < 20; i++) {
            int n = i;
            dueThrow("256 to the " + n + ", flat", UNSUPPORTED, () -> t.flat(n, 0));
            dueThrow("256 to the " + n + ", find", UNSUPPORTED, () -> t.find(n, 0, 0, 1, 1));
            dueThrow("256 to the " + n + ", equalTo", UNSUPPORTED, () -> t.equalTo(n));
            dueBox(t, "256 to the " + n, n, 0, 0, 0, 1, 1);
        }
    }

    public static void main(String[] args) {
        Watch.start();
        test("An object is used for at most 512 calls after it has been made", TermsBoundariesTest::fullRun);
        test("CELLS 0 .. 19.", TermsBoundariesTest::cells);
        test("SHAPES 0 .. 119 (polygons and paths, in the order in which they were made)", TermsBoundariesTest::shapes);
        test("are of a cell and on a layer, 0 .. layers - 1.", TermsBoundariesTest::layers);
        test("A POLYGON has CORNERS, a PATH POINTS, up to 24", TermsBoundariesTest::upTo24);
        test("up to 24 (else it is not there)", TermsBoundariesTest::upTo24WithRefused);
        test("whole numbers from -1000000 to 1000000", TermsBoundariesTest::range);
        test("a polygon with fewer than three .. is EMPTY", TermsBoundariesTest::emptyPolygon);
        test("a path with fewer than two is EMPTY", TermsBoundariesTest::emptyPath);
        test("EMPTY (as if it were not there, but for corner() and point())", TermsBoundariesTest::emptyBetween);
        test("Two points of a path one behind the other differ in just one of x and y.", TermsBoundariesTest::justOne);
        test("A path has a WIDTH (even, 2 .. 1000)", TermsBoundariesTest::widths);
        test("ENDS: 0 flush, 1 longer by half the width.", TermsBoundariesTest::ends);
        test("THE BOX of a polygon are the least and greatest x and y of its corners.",
                TermsBoundariesTest::boxOfPolygon);
        test("That of a path is what holds the boxes of all its pieces", TermsBoundariesTest::boxOfPath);
        test("with ends 1, at the first and the last point so much farther along.",
                TermsBoundariesTest::boxOfGrownPath);
        test("PLACES 0 .. 79", TermsBoundariesTest::places);
        test("a TURN: 0 to 3 quarters to the left, 4 to 7 the same less 4 after mirroring", TermsBoundariesTest::turns);
        test("mirrored (perhaps), turned by so many quarters", TermsBoundariesTest::turnsOverTurns);
        test("An ARRAY of C columns and R rows has that C times R times", TermsBoundariesTest::arrays);
        test("No cell is in itself, directly or over others.", TermsBoundariesTest::notInItself);
        test("No cell is in itself .. over others, over two ways", TermsBoundariesTest::overTwoWays);
        test("LAID FLAT a cell has shapes: its own ones that are not empty, by numbers; then ..",
                TermsBoundariesTest::laidFlat);
        test("(Paths keep widths and ends.)", TermsBoundariesTest::pathsKeep);
        test("THE BOX of a cell on a layer holds the boxes of all its flat shapes on that.",
                TermsBoundariesTest::boxOfCell);
        test("EQUAL .. when both are moved", TermsBoundariesTest::equalMoved);
        test("the least x and the least y of all their boxes are 0", TermsBoundariesTest::equalByBoxes);
        test("they have the same shapes, each as often", TermsBoundariesTest::equalAsOften);
        test("polygons .. whichever comes first and in whichever direction", TermsBoundariesTest::equalPolygons);
        test("the same shapes .. laid flat and placed", TermsBoundariesTest::equalPlaces);
        test("paths with the same points in the same order or the other way round, width and ends",
                TermsBoundariesTest::equalPaths);
        test("on the same layers", TermsBoundariesTest::equalLayers);
        test("(Two cells that have no shapes are equal.)", TermsBoundariesTest::equalWithoutShapes);
        test("laid flat it has more than 3000 shapes (on all layers)", TermsBoundariesTest::limitOfFlat);
        test("more than 3000, very many", TermsBoundariesTest::limitOfFlatWrapped);
        end();
    }
}
