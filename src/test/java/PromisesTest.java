/** One method for each promise: ordinary inputs, the edges that the document names, and wrong inputs. */
public final class PromisesTest extends Dues {
    private static void newObject() {
        ShapeTrees none = new ShapeTrees(3);
        dueThrow("polygon in no cell", INDEX, () -> none.polygon(0, 0));
        dueThrow("flat of no cell", INDEX, () -> none.flat(0, 0));
        dueThrow("at with nothing laid flat", INDEX, () -> none.at(0, 0, 0));
        dueThrow("drop of nothing", INDEX, () -> bit(none.drop(0)));
        dueThrow("array of nothing", INDEX, () -> none.array(0, 1, 1, 0, 0));
        due("NONE", -1, () -> ShapeTrees.NONE);
        int[] asked = {LOW, -1, 0, 1, 2, 65535, 65536, 65537, HIGH};
        int[] had = {1, 1, 1, 1, 2, 65535, 65536, 65536, 65536};
        for (int i = 0; i < asked.length; i++) {
            ShapeTrees t = withCells(asked[i], 1);
            int last = had[i] - 1;
            due(asked[i] + " layers, the last one", 0, () -> t.flat(0, last));
            dueThrow(asked[i] + " layers, one more", INDEX, () -> t.flat(0, last + 1));
            dueThrow(asked[i] + " layers, layer -1", INDEX, () -> t.flat(0, -1));
        }
    }

    private static void cell() {
        ShapeTrees t = new ShapeTrees(1);
        for (int i = 0; i < 20; i++) {
            due("cell " + i, i, t::cell);
        }
        dueThrow("cell 20", STATE, t::cell);
        dueThrow("cell 20 again", STATE, t::cell);
        due("polygon in the last cell", 0, () -> t.polygon(19, 0));
        dueThrow("polygon in no cell", INDEX, () -> t.polygon(20, 0));
    }

    private static void polygon() {
        ShapeTrees t = withCells(2, 2);
        for (int bad : new int[] {LOW, -1, 2, HIGH}) {
            dueThrow("cell " + bad, INDEX, () -> t.polygon(bad, 0));
            dueThrow("layer " + bad, INDEX, () -> t.polygon(0, bad));
        }
        for (int i = 0; i < 120; i++) {
            int n = i;
            due("polygon " + n, n, () -> n % 2 == 0 ? t.polygon(1, 1) : t.path(0, 0, 2, 0));
        }
        dueThrow("polygon 120", STATE, () -> t.polygon(0, 0));
        dueThrow("polygon 120, no such cell", INDEX, () -> t.polygon(2, 0));
        dueThrow("polygon 120, no such layer", INDEX, () -> t.polygon(0, 2));
        t.drop(0);
        dueThrow("a dropped number is not given again", STATE, () -> t.polygon(0, 0));
        due("without corners it is empty", 0, () -> t.flat(1, 1));
    }

    private static void corner() {
        ShapeTrees t = withCells(1, 1);
        int made = t.polygon(0, 0);
        int other = t.path(0, 0, 2, 0);
        due("the first", 1, () -> bit(t.corner(made, 0, 0)));
        due("the same", 0, () -> bit(t.corner(made, 0, 0)));
        due("another x and y", 1, () -> bit(t.corner(made, 1000000, -1000000)));
        due("the same again", 0, () -> bit(t.corner(made, 1000000, -1000000)));
        due("two corners are empty", 0, () -> t.flat(0, 0));
        due("the first again", 1, () -> bit(t.corner(made, 0, 0)));
        due("three are a polygon", 1, () -> t.flat(0, 0));
        dueCorners(t, "three corners", 0, 0, 0, 1000000, -1000000, 0, 0);
        dueThrow("of a path", INDEX, () -> bit(t.corner(other, 0, 0)));
        for (int bad : new int[] {LOW, -1, 2, HIGH}) {
            dueThrow("of " + bad, INDEX, () -> bit(t.corner(bad, 2000000, 0)));
        }
        for (long bad : new long[] {Long.MIN_VALUE, -1000001, 1000001, 1L << 32, Long.MAX_VALUE}) {
            dueThrow("x " + bad, ARGUMENT, () -> bit(t.corner(made, bad, 0)));
            dueThrow("y " + bad, ARGUMENT, () -> bit(t.corner(made, 0, bad)));
            dueThrow("of a path, x " + bad, INDEX, () -> bit(t.corner(other, bad, 0)));
        }
        for (int i = 3; i < 24; i++) {
            int n = i;
            due("corner " + n, 1, () -> bit(t.corner(made, n, n * n)));
        }
        dueThrow("corner 24", STATE, () -> bit(t.corner(made, 0, 0)));
        dueThrow("corner 24, the same as the latest", STATE, () -> bit(t.corner(made, 23, 529)));
        dueThrow("corner 24, out of range", STATE, () -> bit(t.corner(made, 1000001, 0)));
        due("laid flat", 1, () -> t.flat(0, 0));
        due("the last corner", 529, () -> t.at(0, 23, 1));
        dueThrow("no corner 24", INDEX, () -> t.at(0, 24, 0));
        t.drop(made);
        dueThrow("of a dropped one", INDEX, () -> bit(t.corner(made, 0, 0)));
    }

    private static void path() {
        ShapeTrees t = withCells(2, 2);
        for (int bad : new int[] {LOW, -1, 2, HIGH}) {
            dueThrow("cell " + bad, INDEX, () -> t.path(bad, 0, 3, 0));
            dueThrow("layer " + bad, INDEX, () -> t.path(0, bad, 2, 2));
            dueThrow("ends " + bad, ARGUMENT, () -> t.path(0, 0, 2, bad));
        }
        for (long bad : new long[] {Long.MIN_VALUE, -2, 0, 1, 3, 999, 1001, 1002, (1L << 32) + 2, Long.MAX_VALUE}) {
            dueThrow("width " + bad, ARGUMENT, () -> t.path(0, 0, bad, 0));
        }
        due("the narrowest", 0, () -> t.path(0, 0, 2, 0));
        due("the widest", 1, () -> t.path(1, 1, 1000, 1));
        due("a polygon goes on with the numbers", 2, () -> t.polygon(0, 0));
        for (int i = 3; i < 120; i++) {
            int n = i;
            due("path " + n, n, () -> t.path(0, 0, 4, 1));
        }
        dueThrow("path 120", STATE, () -> t.path(0, 0, 2, 0));
        dueThrow("path 120, no such width", STATE, () -> t.path(0, 0, 3, 0));
        dueThrow("path 120, no such cell", INDEX, () -> t.path(2, 0, 2, 0));
    }

    private static void point() {
        ShapeTrees t = withCells(1, 1);
        int made = t.path(0, 0, 2, 1);
        int other = t.polygon(0, 0);
        due("the first", 1, () -> bit(t.point(made, 5, 6)));
        due("the same", 0, () -> bit(t.point(made, 5, 6)));
        due("another x and y", 0, () -> bit(t.point(made, 6, 7)));
        due("one point is empty", 0, () -> t.flat(0, 0));
        due("another x", 1, () -> bit(t.point(made, -1000000, 6)));
        due("two are a path", 1, () -> t.flat(0, 0));
        due("another y", 1, () -> bit(t.point(made, -1000000, 1000000)));
        due("another x and y than the latest", 0, () -> bit(t.point(made, 5, 6)));
        due("laid flat again", 1, () -> t.flat(0, 0));
        dueCorners(t, "three points", 0, 5, 6, -1000000, 6, -1000000, 1000000);
        dueThrow("of a polygon", INDEX, () -> bit(t.point(other, 0, 0)));
        for (int bad : new int[] {LOW, -1, 2, HIGH}) {
            dueThrow("of " + bad, INDEX, () -> bit(t.point(bad, 2000000, 0)));
        }
        for (long bad : new long[] {Long.MIN_VALUE, -1000001, 1000001, 1L << 32, Long.MAX_VALUE}) {
            dueThrow("x " + bad, ARGUMENT, () -> bit(t.point(made, bad, 1000000)));
            dueThrow("y " + bad, ARGUMENT, () -> bit(t.point(made, -1000000, bad)));
        }
        for (int i = 3; i < 24; i++) {
            int n = i;
            due("point " + n, 1, () -> bit(t.point(made, n, 1000000)));
        }
        dueThrow("point 24", STATE, () -> bit(t.point(made, 0, 0)));
        dueThrow("point 24, out of range", STATE, () -> bit(t.point(made, 1000001, 0)));
        t.drop(made);
        dueThrow("of a dropped one", INDEX, () -> bit(t.point(made, 0, 0)));
        int wrongFirst = t.path(0, 0, 2, 0);
        dueThrow("the first out of range", ARGUMENT, () -> bit(t.point(wrongFirst, 1000001, 0)));
        due("the first one always is", 1, () -> bit(t.point(wrongFirst, 0, 0)));
    }

    private static void place() {
        ShapeTrees t = withCells(1, 4);
        for (int bad : new int[] {LOW, -1, 4, HIGH}) {
            dueThrow("cell " + bad, INDEX, () -> t.place(bad, 0, 0, 0, 9));
            dueThrow("of " + bad, INDEX, () -> t.place(0, bad, 2000000, 0, 0));
        }
        for (long bad : new long[] {Long.MIN_VALUE, -1000001, 1000001, 1L << 32, Long.MAX_VALUE}) {
            dueThrow("x " + bad, ARGUMENT, () -> t.place(0, 1, bad, 0, 0));
            dueThrow("y " + bad, ARGUMENT, () -> t.place(0, 1, 0, bad, 0));
        }
        for (int bad : new int[] {LOW, -1, 8, HIGH}) {
            dueThrow("turn " + bad, ARGUMENT, () -> t.place(0, 1, 0, 0, bad));
            dueThrow("turn " + bad + ", in itself", ARGUMENT, () -> t.place(0, 0, 0, 0, bad));
        }
        due("in itself", -1, () -> t.place(2, 2, 0, 0, 0));
        due("3 in 2", 0, () -> t.place(2, 3, 1000000, -1000000, 7));
        due("2 in 0", 1, () -> t.place(0, 2, 0, 0, 0));
        due("2 in 3", -1, () -> t.place(3, 2, 0, 0, 0));
        due("0 in 3, over 2", -1, () -> t.place(3, 0, 0, 0, 0));
        due("3 in 0, also over 2", 2, () -> t.place(0, 3, 0, 0, 0));
        due("0 in 1", 3, () -> t.place(1, 0, 0, 0, 0));
        due("1 in 3, over 0 and 2", -1, () -> t.place(3, 1, 0, 0, 0));
        for (int i = 4; i < 80; i++) {
            int n = i;
            due("place " + n, n, () -> t.place(1, 3, n, 0, 0));
        }
        dueThrow("place 80", STATE, () -> t.place(1, 3, 0, 0, 0));
        dueThrow("place 80, in itself", STATE, () -> t.place(1, 1, 0, 0, 0));
        dueThrow("place 80, no such turn", STATE, () -> t.place(1, 3, 0, 0, 8));
        dueThrow("place 80, no such cell", INDEX, () -> t.place(1, 4, 0, 0, 0));
        turns();
    }

    private static void turns() {
        long[][] turned = {
            {110, 201, 110, 202, 113, 202}, {99, 210, 98, 210, 98, 213},
            {90, 199, 90, 198, 87, 198}, {101, 190, 102, 190, 102, 187},
            {110, 199, 110, 198, 113, 198}, {101, 210, 102, 210, 102, 213},
            {90, 201, 90, 202, 87, 202}, {99, 190, 98, 190, 98, 187}};
        for (int turn = 0; turn < 8; turn++) {
            ShapeTrees t = withCells(1, 2);
            polygon(t, 1, 0, 10, 1, 10, 2, 13, 2);
            int n = turn;
            due("turn " + turn, 0, () -> t.place(0, 1, 100, 200, n));
            due("turn " + turn + " laid flat", 1, () -> t.flat(0, 0));
            dueCorners(t, "turn " + turn, 0, turned[turn]);
        }
        for (int turn = 0; turn < 64; turn++) {
            turnsInTurns(turn / 8, turn % 8, turned);
        }
    }

    /** What is turned and placed at 100, 200, turned by hand once more and moved by -7, 3. */
    private static void turnsInTurns(int outer, int inner, long[][] turned) {
        ShapeTrees t = withCells(1, 3);
        polygon(t, 2, 0, 10, 1, 10, 2, 13, 2);
        t.place(1, 2, 100, 200, inner);
        t.place(0, 1, -7, 3, outer);
        long[] both = turned[inner].clone();
        for (int i = 0; i < both.length; i += 2) {
            long x = both[i];
            long y = outer >= 4 ? -both[i + 1] : both[i + 1];
            for (int quarter = 0; quarter < outer % 4; quarter++) {
                long was = x;
                x = -y;
                y = was;
            }
            both[i] = x - 7;
            both[i + 1] = y + 3;
        }
        due("turn " + inner + " in turn " + outer, 1, () -> t.flat(0, 0));
        dueCorners(t, "turn " + inner + " in turn " + outer, 0, both);
    }

    private static void array() {
        ShapeTrees t = withCells(1, 3);
        polygon(t, 0, 0, 0, 0, 1, 0, 0, 1);
        t.place(1, 0, 100, 0, 0);
        t.place(2, 1, 0, 0, 1);
        for (int bad : new int[] {LOW, -1, 2, HIGH}) {
            dueThrow("place " + bad, INDEX, () -> t.array(bad, 0, 0, 0, 0));
        }
        for (int bad : new int[] {LOW, -1, 0, 21, HIGH}) {
            dueThrow("columns " + bad, ARGUMENT, () -> t.array(0, bad, 1, 0, 0));
            dueThrow("rows " + bad, ARGUMENT, () -> t.array(0, 1, bad, 0, 0));
        }
        for (long bad : new long[] {Long.MIN_VALUE, -1000001, 1000001, 1L << 32, Long.MAX_VALUE}) {
            dueThrow("dx " + bad, ARGUMENT, () -> t.array(0, 1, 1, bad, 0));
            dueThrow("dy " + bad, ARGUMENT, () -> t.array(0, 1, 1, 0, bad));
        }
        due("what is refused changes nothing", 1, () -> t.flat(1, 0));
        due("3 columns, 2 rows", 6, () -> t.array(0, 3, 2, 10, 1000));
        due("laid flat", 6, () -> t.flat(1, 0));
        for (int i = 0; i < 6; i++) {
            dueCorners(t, "copy " + i, i, 100 + i % 3 * 10, i / 3 * 1000, 101 + i % 3 * 10, i / 3 * 1000,
                    100 + i % 3 * 10, 1 + i / 3 * 1000);
        }
        due("turned as a whole", 6, () -> t.flat(2, 0));
        dueCorners(t, "turned copy 5", 5, -1000, 120, -1000, 121, -1001, 120);
        due("in place of the one before", 2, () -> t.array(0, 1, 2, 7, -5));
        due("laid flat anew", 2, () -> t.flat(1, 0));
        dueCorners(t, "the other row", 1, 100, -5, 101, -5, 100, -4);
        due("the most", 400, () -> t.array(1, 20, 20, 1000000, -1000000));
        due("arrays of arrays", 800, () -> t.flat(2, 0));
    }

    private static void box() {
        ShapeTrees t = withCells(2, 4);
        for (int bad : new int[] {LOW, -1, 4, HIGH}) {
            dueThrow("cell " + bad, INDEX, () -> t.box(bad, 0, 0));
            dueThrow("layer " + bad, INDEX, () -> t.box(0, bad, 0));
            dueThrow("side " + bad, INDEX, () -> t.box(0, 0, bad));
        }
        dueThrow("nothing there", STATE, () -> t.box(0, 0, 0));
        polygon(t, 0, 0, 3, -7, 9, 2);
        dueThrow("only an empty one", STATE, () -> t.box(0, 0, 0));
        int triangle = polygon(t, 0, 0, 3, -7, 9, 2, -4, 5);
        dueBox(t, "a polygon", 0, 0, -4, -7, 9, 5);
        dueThrow("nothing on the other layer", STATE, () -> t.box(0, 1, 0));
        polygon(t, 0, 1, 50, 50, 60, 50, 50, 61);
        dueBox(t, "a layer by itself", 0, 1, 50, 50, 60, 61);
        dueBox(t, "and the other", 0, 0, -4, -7, 9, 5);
        pathBoxes();
        t.place(1, 0, 100, 1000, 5);
        dueBox(t, "mirrored and turned", 1, 0, 93, 996, 105, 1009);
        t.array(0, 3, 2, -10, 20);
        dueBox(t, "an array", 1, 0, 73, 996, 105, 1029);
        t.place(2, 1, 0, 0, 2);
        dueBox(t, "over two", 2, 0, -105, -1029, -73, -996);
        t.drop(triangle);
        dueThrow("after a drop", STATE, () -> t.box(2, 0, 0));
        dueBox(t, "an empty cell adds nothing", 2, 1, -161, -1080, -130, -1050);
        boxOfVeryMany();
    }

    private static void pathBoxes() {
        ShapeTrees t = withCells(1, 9);
        path(t, 0, 0, 4, 0, 10, 20, 30, 20);
        dueBox(t, "flush, to the right", 0, 0, 10, 18, 30, 22);
        path(t, 1, 0, 4, 1, 10, 20, 30, 20);
        dueBox(t, "longer, to the right", 1, 0, 8, 18, 32, 22);
        path(t, 2, 0, 4, 1, 30, 20, 10, 20);
        dueBox(t, "longer, to the left", 2, 0, 8, 18, 32, 22);
        path(t, 3, 0, 6, 1, 5, 40, 5, 10);
        dueBox(t, "longer, down", 3, 0, 2, 7, 8, 43);
        path(t, 4, 0, 6, 0, 5, 10, 5, 40);
        dueBox(t, "flush, up", 4, 0, 2, 10, 8, 40);
        path(t, 5, 0, 10, 1, 0, 0, 100, 0, 100, 50);
        dueBox(t, "longer, with a bend", 5, 0, -5, -5, 105, 55);
        path(t, 6, 0, 10, 0, 0, 0, 100, 0, 100, 50);
        dueBox(t, "flush, with a bend", 6, 0, 0, -5, 105, 50);
        path(t, 7, 0, 10, 1, 0, 0, 100, 0, 40, 0);
        dueBox(t, "longer, but not where it goes back", 7, 0, -5, -5, 100, 5);
        path(t, 8, 0, 1000, 1, 0, 0, 1, 0, 0, 0);
        dueBox(t, "longer, there and back, shorter than wide", 8, 0, -500, -500, 500 - 499, 500);
    }

    private static void boxOfVeryMany() {
        ShapeTrees t = withCells(1, 20);
        polygon(t, 0, 0, -1000000, -1000000, 1000000, -1000000, 1000000, 1000000);
        for (int i = 1; i < 20; i++) {
            t.place(i, i - 1, 1000000, -1000000, 0);
            t.array(i - 1, 20, 20, 1000000, -1000000);
        }
        dueBox(t, "a tower of arrays", 19, 0, 18000000, -381000000, 381000000, -18000000);
        dueThrow("too many to lay flat", UNSUPPORTED, () -> t.flat(19, 0));
    }

    private static void flat() {
        ShapeTrees t = withCells(2, 4);
        for (int bad : new int[] {LOW, -1, 4, HIGH}) {
            dueThrow("cell " + bad, INDEX, () -> t.flat(bad, 0));
            dueThrow("layer " + bad, INDEX, () -> t.flat(0, bad));
        }
        due("of nothing", 0, () -> t.flat(0, 0));
        t.place(0, 2, 1000, 0, 0);
        polygon(t, 0, 0, 1, 0, 2, 0, 1, 1);
        polygon(t, 2, 0, 3, 0, 4, 0, 3, 1);
        polygon(t, 0, 0, 9, 9, 8, 8);
        t.place(0, 1, 0, 2000, 0);
        polygon(t, 1, 1, 5, 0, 6, 0, 5, 1);
        path(t, 1, 0, 2, 1, 7, 0, 7, 8);
        t.place(1, 2, 0, 0, 2);
        path(t, 0, 0, 4, 0, 9, 0, 9, 9);
        due("on layer 0", 5, () -> t.flat(0, 0));
        dueCorners(t, "its own first", 0, 1, 0, 2, 0, 1, 1);
        dueCorners(t, "its own second, the empty one left out", 1, 9, 0, 9, 9);
        dueCorners(t, "the first place", 2, 1003, 0, 1004, 0, 1003, 1);
        dueCorners(t, "the second place", 3, 7, 2000, 7, 2008);
        dueCorners(t, "a place in that", 4, -3, 2000, -4, 2000, -3, 1999);
        dueThrow("no more", INDEX, () -> t.at(5, 0, 0));
        due("on layer 1", 1, () -> t.flat(0, 1));
        dueCorners(t, "the only one", 0, 5, 2000, 6, 2000, 5, 2001);
        dueThrow("those of layer 0 are away", INDEX, () -> t.at(1, 0, 0));
        flatLimit();
        flatOfNothingVeryOften();
    }

    private static void flatLimit() {
        ShapeTrees t = withCells(2, 4);
        polygon(t, 0, 0, 0, 0, 1, 0, 0, 1);
        polygon(t, 0, 1, 0, 0, 1, 0, 0, 1);
        t.place(1, 0, 0, 0, 0);
        t.array(0, 10, 15, 2, 2);
        t.place(2, 1, 0, 0, 0);
        t.array(1, 10, 1, 100, 0);
        due("3000 shapes on all layers", 1500, () -> t.flat(2, 1));
        due("the last one", 918, () -> t.at(1499, 0, 0));
        int one = polygon(t, 2, 1, 0, 0, 1, 0);
        due("and one that is empty", 1500, () -> t.flat(2, 0));
        t.corner(one, 0, 1);
        dueThrow("3001 shapes on all layers", UNSUPPORTED, () -> t.flat(2, 0));
        dueThrow("3001 shapes, no such layer", INDEX, () -> t.flat(2, 2));
        due("what is at hand stays", 918, () -> t.at(1499, 0, 0));
        due("a box all the same", 919, () -> t.box(2, 0, 2));
        t.drop(one);
        due("3000 again", 1500, () -> t.flat(2, 0));
    }

    private static void flatOfNothingVeryOften() {
        ShapeTrees t = withCells(1, 20);
        for (int i = 1; i < 20; i++) {
            t.place(i, i - 1, 1, 1, 1);
            t.array(i - 1, 20, 20, 1, 1);
        }
        for (int i = 0; i < 61; i++) {
            t.place(19 - i % 3, i % 3, 1, 1, 1);
        }
        due("a tower of arrays of nothing", 0, () -> t.flat(19, 0));
        due("nothing is found in it", 0, () -> t.find(19, 0, 0, 0, 0));
        due("all of nothing is equal", 0, () -> t.equalTo(19));
        polygon(t, 18, 0, 0, 0, 1, 0, 0, 1);
        due("with one polygon near the top", 400, () -> t.flat(19, 0));
        due("not equal to nothing", -1, () -> t.equalTo(18));
    }

    private static void at() {
        ShapeTrees t = withCells(2, 2);
        int triangle = polygon(t, 0, 0, 1, 2, 3, 4, 5, 7);
        int line = path(t, 0, 0, 2, 0, 0, 0, 0, 9);
        t.place(1, 0, 10, 10, 0);
        due("one below is equal", 0, () -> t.equalTo(1));
        dueThrow("equalTo lays nothing at hand", INDEX, () -> t.at(0, 0, 0));
        due("find finds", 1, () -> t.find(1, 10, 10, 10, 10));
        dueThrow("find lays nothing at hand", INDEX, () -> t.at(0, 0, 0));
        due("laid flat first", 2, () -> t.flat(1, 0));
        dueCorners(t, "the polygon moved", 0, 11, 12, 13, 14, 15, 17);
        t.flat(0, 0);
        due("one below is still equal", 0, () -> t.equalTo(1));
        dueCorners(t, "after equalTo", 0, 1, 2, 3, 4, 5, 7);
        int placed = t.place(t.cell(), 0, 10, 10, 1);
        due("laid flat", 2, () -> t.flat(2, 0));
        dueCorners(t, "the polygon", 0, 8, 11, 6, 13, 3, 15);
        dueCorners(t, "the path", 1, 10, 10, 1, 10);
        for (int bad : new int[] {LOW, -1, 2, HIGH}) {
            dueThrow("shape " + bad, INDEX, () -> t.at(bad, 0, 0));
            dueThrow("axis " + bad, INDEX, () -> t.at(0, 0, bad));
        }
        for (int bad : new int[] {LOW, -1, 3, 24, HIGH}) {
            dueThrow("corner " + bad, INDEX, () -> t.at(0, bad, 0));
        }
        t.corner(triangle, 6, 6);
        t.point(line, 1, 9);
        t.array(placed, 2, 2, 5, 5);
        polygon(t, 0, 0, 0, 0, 1, 0, 0, 1);
        t.equalTo(1);
        t.find(1, 0, 0, 9, 9);
        t.box(1, 0, 0);
        dueCorners(t, "the polygon as it was", 0, 8, 11, 6, 13, 3, 15);
        dueCorners(t, "the path as it was", 1, 10, 10, 1, 10);
        t.drop(triangle);
        t.drop(line);
        dueCorners(t, "the polygon as it was, dropped", 0, 8, 11, 6, 13, 3, 15);
        dueThrow("flat that throws", INDEX, () -> t.flat(3, 0));
        dueCorners(t, "the path as it was, after that", 1, 10, 10, 1, 10);
        due("nothing on layer 1", 0, () -> t.flat(1, 1));
        dueThrow("nothing at hand", INDEX, () -> t.at(0, 0, 0));
    }

    private static void equalTo() {
        ShapeTrees t = withCells(1, 3);
        for (int bad : new int[] {LOW, -1, 3, HIGH}) {
            dueThrow("cell " + bad, INDEX, () -> t.equalTo(bad));
        }
        due("none is below", -1, () -> t.equalTo(0));
        due("no shapes at all", 0, () -> t.equalTo(1));
        due("the least one", 0, () -> t.equalTo(2));
        equalPolygons();
        equalPaths();
        equalGrowing();
        equalLayersAndNumbers();
        equalPlaces();
        equalTooMany();
    }

    private static void duePair(String what, boolean isEqual, ShapeTrees t) {
        due(what, isEqual ? 0 : -1, () -> t.equalTo(1));
    }

    private static void polygons(String what, boolean isEqual, long[] one, long[] other) {
        ShapeTrees t = withCells(1, 2);
        polygon(t, 0, 0, one);
        polygon(t, 1, 0, other);
        duePair(what, isEqual, t);
    }

    private static void equalPolygons() {
        long[] one = {0, 0, 4, 0, 4, 3, 1, 2};
        polygons("the same", true, one, one);
        polygons("moved", true, one, new long[] {-10, 5, -6, 5, -6, 8, -9, 7});
        polygons("another one first", true, one, new long[] {4, 3, 1, 2, 0, 0, 4, 0});
        polygons("the other way round", true, one, new long[] {1, 2, 4, 3, 4, 0, 0, 0});
        polygons("both", true, one, new long[] {4, 0, 0, 0, 1, 2, 4, 3});
        polygons("another order", false, one, new long[] {0, 0, 4, 3, 4, 0, 1, 2});
        polygons("mirrored", false, one, new long[] {0, 0, -4, 0, -4, 3, -1, 2});
        polygons("a corner elsewhere", false, one, new long[] {0, 0, 4, 0, 4, 3, 1, 1});
        polygons("a corner twice", false, new long[] {0, 0, 4, 0, 4, 3, 0, 0}, new long[] {0, 0, 4, 0, 4, 3});
        polygons("a corner more", false, new long[] {0, 0, 1, 0, 1, 1, 1, 0}, new long[] {0, 0, 1, 0, 1, 1});
        polygons("which corner twice", false, new long[] {0, 0, 4, 0, 4, 3, 0, 0}, new long[] {4, 0, 4, 3, 0, 0, 4, 0});
        polygons("the least corner comes often", true,
                new long[] {0, 0, 1, 1, 0, 0, 2, 2, 0, 0, 1, 2}, new long[] {0, 0, 1, 2, 0, 0, 1, 1, 0, 0, 2, 2});
        polygons("the least corner comes often, else", true,
                new long[] {0, 0, 1, 1, 0, 0, 2, 2, 0, 0, 1, 2}, new long[] {0, 0, 2, 2, 0, 0, 1, 1, 0, 0, 1, 2});
        polygons("the least corner comes often, unequal", false,
                new long[] {0, 0, 1, 1, 0, 0, 2, 2, 0, 0, 1, 2, 2, 0},
                new long[] {0, 0, 2, 2, 0, 0, 1, 1, 0, 0, 1, 2, 2, 0});
    }

    private static void paths(String what, boolean isEqual, long width, int ends, long[] one, long[] other) {
        ShapeTrees t = withCells(1, 2);
        path(t, 0, 0, 4, 0, one);
        path(t, 1, 0, width, ends, other);
        duePair(what, isEqual, t);
    }

    private static void equalPaths() {
        long[] one = {0, 0, 5, 0, 5, 5, 1, 5};
        paths("the same path", true, 4, 0, one, one);
        paths("a moved path", true, 4, 0, one, new long[] {7, -7, 12, -7, 12, -2, 8, -2});
        paths("the other way round", true, 4, 0, one, new long[] {1, 5, 5, 5, 5, 0, 0, 0});
        paths("another width", false, 6, 0, one, one);
        paths("another width, the same box", false, 8, 1, new long[] {0, 0, 2, 0, 2, 8}, new long[] {4, 0, 4, 4});
        paths("other ends", false, 4, 1, one, one);
        paths("other ends, the same box", false, 4, 1, new long[] {0, 0, 8, 0}, new long[] {2, 0, 6, 0});
        paths("a ring does not begin elsewhere", false, 4, 0,
                new long[] {0, 0, 5, 0, 5, 5, 0, 5, 0, 0}, new long[] {5, 0, 5, 5, 0, 5, 0, 0, 5, 0});
        paths("mirrored path", false, 4, 0, one, new long[] {0, 0, -5, 0, -5, 5, -1, 5});
        paths("a point between", false, 4, 0, new long[] {0, 0, 8, 0}, new long[] {0, 0, 4, 0, 8, 0});
        framed("in a frame, the same", true, 4, 1);
        framed("in a frame, another width", false, 6, 1);
        framed("in a frame, other ends", false, 4, 0);
        ShapeTrees t = withCells(1, 2);
        path(t, 0, 0, 2, 0, 0, 0, 5, 0, 5, 5);
        polygon(t, 1, 0, 0, 0, 5, 0, 5, 5);
        duePair("a path and a polygon", false, t);
    }

    /** Both cells have the same box, whatever the width and the ends are. */
    private static void framed(String what, boolean isEqual, long width, int ends) {
        ShapeTrees t = withCells(1, 2);
        polygon(t, 0, 0, -100, -100, 100, -100, 100, 100);
        path(t, 0, 0, 4, 1, 0, 0, 5, 0);
        polygon(t, 1, 0, -100, -100, 100, -100, 100, 100);
        path(t, 1, 0, width, ends, 5, 0, 0, 0);
        duePair(what, isEqual, t);
    }

    private static void equalGrowing() {
        ShapeTrees t = withCells(1, 4);
        int one = polygon(t, 0, 0, 5, 5, 9, 5, 9, 9);
        int other = polygon(t, 1, 0, 15, 5, 19, 5, 19, 9);
        duePair("before they grow", true, t);
        t.corner(one, 6, 1);
        duePair("one has grown", false, t);
        t.corner(one, 2, 2);
        t.drop(other);
        polygon(t, 1, 0, 12, 2, 15, 5, 19, 5, 19, 9, 16, 1);
        duePair("grown as the other one is made", true, t);
        t.drop(one);
        due("nothing and what was dropped", -1, () -> t.equalTo(1));
        due("what was dropped and nothing", 0, () -> t.equalTo(2));
        due("also placed", 0, () -> t.place(3, 0, 5, 5, 1));
        due("also placed, nothing", 0, () -> t.equalTo(3));
        ShapeTrees u = withCells(1, 2);
        int line = path(u, 0, 0, 2, 0, 5, 0, 0, 0);
        int twin = path(u, 1, 0, 2, 0, 0, 0, 5, 0);
        duePair("paths before they grow", true, u);
        u.point(line, 0, 7);
        duePair("one path has grown", false, u);
        u.drop(twin);
        path(u, 1, 0, 2, 0, 0, 7, 0, 0, 5, 0);
        duePair("a path grown as the other one is made", true, u);
    }

    private static void equalLayersAndNumbers() {
        ShapeTrees t = withCells(2, 2);
        polygon(t, 0, 0, 0, 0, 1, 0, 0, 1);
        polygon(t, 0, 1, 5, 5, 6, 5, 5, 6);
        polygon(t, 1, 1, 15, 5, 16, 5, 15, 6);
        duePair("one of the two", false, t);
        int second = polygon(t, 1, 0, 10, 0, 11, 0, 10, 1);
        duePair("in another order", true, t);
        int twice = polygon(t, 1, 0, 10, 0, 11, 0, 10, 1);
        duePair("one twice", false, t);
        polygon(t, 0, 1, 5, 5, 6, 5, 5, 6);
        duePair("another one twice", false, t);
        t.drop(twice);
        polygon(t, 1, 1, 16, 5, 15, 5, 15, 6);
        duePair("the same one twice", true, t);
        t.drop(second);
        polygon(t, 1, 1, 10, 0, 11, 0, 10, 1);
        duePair("on another layer", false, t);
        ShapeTrees u = withCells(2, 2);
        polygon(u, 0, 0, 0, 0, 1, 0, 0, 1);
        path(u, 0, 1, 4, 0, 5, 0, 5, 5);
        polygon(u, 1, 0, 0, 0, 1, 0, 0, 1);
        path(u, 1, 1, 4, 0, 6, 0, 6, 5);
        duePair("not moved as one", false, u);
        ShapeTrees v = withCells(2, 2);
        polygon(v, 0, 0, 0, 0, 1, 0, 0, 1);
        polygon(v, 0, 1, 5, 5, 6, 5, 5, 6);
        polygon(v, 1, 1, 0, 0, 1, 0, 0, 1);
        polygon(v, 1, 0, 5, 5, 6, 5, 5, 6);
        duePair("layers the other way round", false, v);
    }

    private static void equalPlaces() {
        ShapeTrees t = withCells(1, 7);
        polygon(t, 0, 0, 0, 0, 4, 0, 4, 3);
        path(t, 0, 0, 2, 1, 7, 7, 7, 12, 9, 12);
        t.place(1, 0, 50, -60, 1);
        due("a quarter", -1, () -> t.equalTo(1));
        t.place(2, 1, 5, 6, 3);
        due("a quarter and three", 0, () -> t.equalTo(2));
        t.place(3, 0, 5, 6, 6);
        due("mirrored", -1, () -> t.equalTo(3));
        t.place(4, 3, 1, 1, 6);
        due("mirrored twice", 0, () -> t.equalTo(4));
        t.place(5, 0, 0, 0, 0);
        t.array(4, 2, 3, 10, 20);
        for (int i = 0; i < 6; i++) {
            t.place(6, i % 2 == 0 ? 2 : 4, 0, 0, 0);
        }
        due("six at one place", -1, () -> t.equalTo(6));
        ShapeTrees v = withCells(1, 3);
        polygon(v, 0, 0, -1, -1, 1, 1, 0, 1);
        v.place(1, 0, 0, 0, 0);
        v.place(2, 0, 0, 0, 2);
        due("not turned", 0, () -> v.equalTo(1));
        due("turned, with the same box and least corner", -1, () -> v.equalTo(2));
        ShapeTrees u = withCells(1, 3);
        polygon(u, 0, 0, 0, 0, 4, 0, 4, 3);
        u.place(1, 0, 0, 0, 0);
        u.array(0, 2, 3, 10, 20);
        for (int i = 5; i >= 0; i--) {
            u.place(2, 0, 7 + i % 2 * 10, 8 + i / 2 * 20, 0);
        }
        due("an array and single places", 1, () -> u.equalTo(2));
        u.array(6, 1, 2, 0, 0);
        due("one of them twice", -1, () -> u.equalTo(2));
        u.array(0, 7, 1, 0, 0);
        due("as many elsewhere", -1, () -> u.equalTo(2));
    }

    private static void equalTooMany() {
        ShapeTrees t = withCells(1, 5);
        polygon(t, 0, 0, 0, 0, 1, 0, 0, 1);
        polygon(t, 1, 0, 0, 0, 1, 0, 0, 1);
        t.place(2, 1, 0, 0, 0);
        t.array(0, 20, 20, 1, 1);
        t.place(3, 2, 0, 0, 0);
        t.array(1, 8, 1, 1, 1);
        polygon(t, 4, 0, 0, 0, 1, 0, 0, 1);
        due("below the one with too many", -1, () -> t.equalTo(2));
        due("another one above it all does not matter", 0, () -> t.equalTo(1));
        dueThrow("too many", UNSUPPORTED, () -> t.equalTo(3));
        dueThrow("one below has too many", UNSUPPORTED, () -> t.equalTo(4));
        dueThrow("no such cell", INDEX, () -> t.equalTo(5));
        t.array(1, 7, 1, 1, 1);
        due("no more too many", 0, () -> t.equalTo(4));
    }

    private static void find() {
        ShapeTrees t = withCells(2, 3);
        int triangle = polygon(t, 0, 0, 10, 10, 20, 10, 10, 20);
        path(t, 0, 1, 4, 1, 30, 0, 40, 0);
        for (int bad : new int[] {LOW, -1, 3, HIGH}) {
            dueThrow("cell " + bad, INDEX, () -> t.find(bad, 1, 0, 0, 0));
        }
        dueThrow("x0 above x1", ARGUMENT, () -> t.find(0, 1, 0, 0, 0));
        dueThrow("y0 above y1", ARGUMENT, () -> t.find(0, 0, 1, 0, 0));
        for (long bad : new long[] {-1000001, Long.MIN_VALUE}) {
            dueThrow("x0 " + bad, ARGUMENT, () -> t.find(0, bad, 0, 0, 0));
            dueThrow("y0 " + bad, ARGUMENT, () -> t.find(0, 0, bad, 0, 0));
        }
        for (long bad : new long[] {1000001, Long.MAX_VALUE}) {
            dueThrow("x1 " + bad, ARGUMENT, () -> t.find(0, 0, 0, bad, 0));
            dueThrow("y1 " + bad, ARGUMENT, () -> t.find(0, 0, 0, 0, bad));
        }
        due("all", 2, () -> t.find(0, -1000000, -1000000, 1000000, 1000000));
        due("a corner of the box, where no corner is", 1, () -> t.find(0, 20, 20, 20, 20));
        due("right of it", 0, () -> t.find(0, 21, 10, 27, 20));
        due("its right edge", 1, () -> t.find(0, 20, 10, 27, 20));
        due("left of it", 0, () -> t.find(0, 0, 10, 9, 20));
        due("its left edge", 1, () -> t.find(0, 0, 10, 10, 20));
        due("below it", 0, () -> t.find(0, 10, 3, 20, 9));
        due("its lower edge", 1, () -> t.find(0, 10, 3, 20, 10));
        due("above it", 0, () -> t.find(0, 10, 21, 20, 29));
        due("its upper edge", 1, () -> t.find(0, 10, 20, 20, 29));
        due("within it", 1, () -> t.find(0, 12, 12, 13, 13));
        due("across it", 1, () -> t.find(0, 0, 12, 29, 13));
        due("the path's width", 1, () -> t.find(0, 35, 2, 35, 9));
        due("beyond the path's width", 0, () -> t.find(0, 35, 3, 35, 9));
        due("the path's longer end", 1, () -> t.find(0, 42, 0, 50, 0));
        due("beyond the path's longer end", 0, () -> t.find(0, 43, 0, 50, 0));
        t.place(1, 0, 0, 0, 1);
        t.array(0, 3, 1, 100, 0);
        due("in places", 6, () -> t.find(1, -1000000, -1000000, 1000000, 1000000));
        due("in places, turned", 2, () -> t.find(1, 90, 10, 190, 20));
        t.drop(triangle);
        due("after a drop", 0, () -> t.find(1, 90, 10, 190, 20));
        t.place(2, 1, 0, 0, 0);
        t.array(0, 20, 20, 0, 0);
        t.array(1, 4, 2, 0, 0);
        dueThrow("too many", UNSUPPORTED, () -> t.find(2, 0, 0, 0, 0));
        dueThrow("too many, and inside out", ARGUMENT, () -> t.find(2, 1, 0, 0, 0));
        t.array(1, 7, 1, 1, 1);
        due("many", 2800, () -> t.find(2, -1000000, -1000000, 1000000, 1000000));
    }

    private static void drop() {
        ShapeTrees t = withCells(1, 1);
        int full = polygon(t, 0, 0, 0, 0, 1, 0, 0, 1);
        int bare = t.polygon(0, 0);
        int line = path(t, 0, 0, 2, 0, 0, 0, 1, 0);
        for (int bad : new int[] {LOW, -1, 3, HIGH}) {
            dueThrow("shape " + bad, INDEX, () -> bit(t.drop(bad)));
        }
        due("a polygon", 1, () -> bit(t.drop(full)));
        due("again", 0, () -> bit(t.drop(full)));
        due("it is away", 1, () -> t.flat(0, 0));
        due("one without corners", 1, () -> bit(t.drop(bare)));
        due("again, without corners", 0, () -> bit(t.drop(bare)));
        dueThrow("no corner for that", INDEX, () -> bit(t.corner(bare, 0, 0)));
        due("a path", 1, () -> bit(t.drop(line)));
        due("all are away", 0, () -> t.flat(0, 0));
        due("the next number is a new one", 3, () -> t.polygon(0, 0));
    }

    public static void main(String[] args) {
        Watch.start();
        test("promise 1 (a new object)", PromisesTest::newObject);
        test("promise 2 (cell)", PromisesTest::cell);
        test("promise 3 (polygon)", PromisesTest::polygon);
        test("promise 4 (corner)", PromisesTest::corner);
        test("promise 5 (path)", PromisesTest::path);
        test("promise 6 (point)", PromisesTest::point);
        test("promise 7 (place)", PromisesTest::place);
        test("promise 8 (array)", PromisesTest::array);
        test("promise 9 (box)", PromisesTest::box);
        test("promise 10 (flat)", PromisesTest::flat);
        test("promise 11 (at)", PromisesTest::at);
        test("promise 12 (equalTo)", PromisesTest::equalTo);
        test("promise 13 (find)", PromisesTest::find);
        test("promise 14 (drop)", PromisesTest::drop);
        end();
    }
}
