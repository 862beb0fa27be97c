/** 'Methods throw .. the one named first when several would do.' and 'A call that throws changes nothing.' */
public final class RefusalsTest extends Dues {
    private interface CallOf {
        long answer(ShapeTrees t);
    }

    private static final long OUT = FAR + 1;
    private static final int BARE = 4;
    private static final int FULL_POLYGON = 5;
    private static final int FULL_PATH = 6;
    private static final int DROPPED = 7;
    private static final int DROPPED_FULL = 8;

    /**
     * Cell 0 has shapes, cell 1 it in an array, cell 2 too many, cell 3 none. Shapes on layer 0 of cell 1 are at hand.
     * Shape 0 is a polygon, 1 a path.
     */
    private static ShapeTrees made() {
        ShapeTrees t = withCells(2, 4);
        polygon(t, 0, 0, TRIANGLE);
        path(t, 0, 0, 4, 1, 5, 5, 5, 9);
        polygon(t, 0, 1, 7, 7, 9, 7, 8, 9);
        path(t, 0, 1, 6, 0, 1, 1);
        t.polygon(0, 0);
        t.polygon(0, 0);
        t.path(0, 1, 2, 0);
        t.path(0, 0, 2, 0);
        t.polygon(0, 0);
        for (int i = 0; i < 24; i++) {
            t.corner(FULL_POLYGON, i, i * i);
            t.point(FULL_PATH, i, 3);
            t.corner(DROPPED_FULL, i, 0);
        }
        t.point(DROPPED, 0, 0);
        t.drop(DROPPED);
        t.drop(DROPPED_FULL);
        t.place(1, 0, 100, 200, 5);
        t.array(0, 3, 2, 10, 20);
        t.place(2, 1, 0, 0, 0);
        t.array(1, 20, 20, 1, 1);
        t.flat(1, 0);
        return t;
    }

    /** The same with as many cells, shapes and places as there can be. */
    private static ShapeTrees full() {
        ShapeTrees t = made();
        for (int i = 4; i < 20; i++) {
            t.cell();
        }
        for (int i = 9; i < 120; i++) {
            t.polygon(3, 0);
        }
        for (int i = 2; i < 80; i++) {
            t.place(1, 3, 0, 0, 0);
        }
        return t;
    }

    private static void tellAtHand(ShapeTrees t, int most, StringBuilder all) {
        for (int shape = 0; shape < most; shape++) {
            int s = shape;
            all.append(told(() -> t.at(s, 0, 0))).append(' ').append(told(() -> t.at(s, 2, 1))).append(' ');
        }
    }

    /** What is at hand, what all cells have, whether shapes grow from where they were, and the next numbers. */
    private static String everything(ShapeTrees t) {
        StringBuilder all = new StringBuilder();
        tellAtHand(t, 19, all);
        for (int cell = 0; cell < 4; cell++) {
            int c = cell;
            for (int side = 0; side < 4; side++) {
                int s = side;
                all.append(told(() -> t.box(c, s % 2, s))).append(' ');
            }
            all.append(told(() -> t.find(c, 0, 0, 150, 250))).append(' ').append(told(() -> t.equalTo(c))).append(' ');
            all.append(told(() -> t.flat(c, 0))).append(' ').append(told(() -> t.flat(c, 1))).append(" / ");
        }
        t.flat(1, 0);
        tellAtHand(t, 19, all);
        for (int shape = 0; shape < 9; shape++) {
            int s = shape;
            all.append(told(() -> bit(t.corner(s, 0, 1)))).append(' ');
            all.append(told(() -> bit(t.point(s, 5, 9)))).append(' ').append(told(() -> bit(t.drop(s)))).append(' ');
        }
        all.append(told(() -> t.place(0, 3, 0, 0, 0))).append(' ').append(told(() -> t.array(1, 1, 1, 0, 0)));
        all.append(' ').append(told(() -> t.polygon(0, 0))).append(' ').append(told(t::cell));
        return all.toString();
    }

    private static void dueRefused(String what, Class<?> want, CallOf call) {
        refused(what, want.getSimpleName(), made(), made(), call);
    }

    private static void dueRefusedWhenFull(String what, Class<?> want, CallOf call) {
        refused(what + ", full", want.getSimpleName(), full(), full(), call);
    }

    private static void dueAnswered(String what, long want, CallOf call) {
        refused(what, "" + want, made(), made(), call);
    }

    private static void refused(String what, String want, ShapeTrees asked, ShapeTrees twin, CallOf call) {
        dueText(what, want, told(() -> call.answer(asked)));
        dueText(what + ", all else then", everything(twin), everything(asked));
    }

    private static void cell() {
        dueRefusedWhenFull("cell", STATE, t -> t.cell());
    }

    private static void polygon() {
        dueRefused("no such cell", INDEX, t -> t.polygon(4, 0));
        dueRefused("no such layer", INDEX, t -> t.polygon(0, 2));
        dueRefusedWhenFull("a polygon", STATE, t -> t.polygon(0, 0));
        dueRefusedWhenFull("no such cell", INDEX, t -> t.polygon(20, 0));
        dueRefusedWhenFull("no such layer", INDEX, t -> t.polygon(0, -1));
    }

    private static void corner() {
        dueRefused("no such shape", INDEX, t -> bit(t.corner(9, 1, 1)));
        dueRefused("no such shape, out of range", INDEX, t -> bit(t.corner(-1, OUT, 1)));
        dueRefused("a path", INDEX, t -> bit(t.corner(1, 1, 1)));
        dueRefused("a path, out of range", INDEX, t -> bit(t.corner(1, 1, -OUT)));
        dueRefused("a path with 24 points", INDEX, t -> bit(t.corner(FULL_PATH, 1, 1)));
        dueRefused("dropped", INDEX, t -> bit(t.corner(DROPPED_FULL, 1, 1)));
        dueRefused("dropped, out of range", INDEX, t -> bit(t.corner(DROPPED_FULL, OUT, OUT)));
        dueRefused("24 corners", STATE, t -> bit(t.corner(FULL_POLYGON, 1, 1)));
        dueRefused("24 corners, out of range", STATE, t -> bit(t.corner(FULL_POLYGON, 1, OUT)));
        dueRefused("24 corners, the latest", STATE, t -> bit(t.corner(FULL_POLYGON, 23, 529)));
        dueRefused("x out of range", ARGUMENT, t -> bit(t.corner(0, OUT, 1)));
        dueRefused("y out of range", ARGUMENT, t -> bit(t.corner(0, 0, -OUT)));
        dueRefused("the first out of range", ARGUMENT, t -> bit(t.corner(BARE, -OUT, 0)));
        dueAnswered("the latest", 0, t -> bit(t.corner(0, 0, 1)));
    }

    private static void path() {
        dueRefused("no such cell", INDEX, t -> t.path(4, 0, 2, 0));
        dueRefused("no such cell, width", INDEX, t -> t.path(-1, 0, 3, 0));
        dueRefused("no such layer", INDEX, t -> t.path(0, 2, 2, 0));
        dueRefused("no such layer, ends", INDEX, t -> t.path(0, -1, 2, 2));
        dueRefused("no such width", ARGUMENT, t -> t.path(0, 0, 3, 0));
        dueRefused("no such ends", ARGUMENT, t -> t.path(0, 0, 2, 2));
        dueRefusedWhenFull("a path", STATE, t -> t.path(0, 0, 2, 0));
        dueRefusedWhenFull("no such width", STATE, t -> t.path(0, 0, 0, 0));
        dueRefusedWhenFull("no such ends", STATE, t -> t.path(0, 0, 2, -1));
        dueRefusedWhenFull("no such cell", INDEX, t -> t.path(20, 0, 2, 0));
        dueRefusedWhenFull("no such layer", INDEX, t -> t.path(0, 2, 2, 0));
    }

    private static void point() {
        dueRefused("no such shape", INDEX, t -> bit(t.point(9, 1, 1)));
        dueRefused("no such shape, out of range", INDEX, t -> bit(t.point(-1, OUT, 1)));
        dueRefused("a polygon", INDEX, t -> bit(t.point(0, 0, 5)));
        dueRefused("a polygon, out of range", INDEX, t -> bit(t.point(0, 0, OUT)));
        dueRefused("a polygon with 24 corners", INDEX, t -> bit(t.point(FULL_POLYGON, 1, 1)));
        dueRefused("dropped", INDEX, t -> bit(t.point(DROPPED, 1, 0)));
        dueRefused("dropped, out of range", INDEX, t -> bit(t.point(DROPPED, OUT, 0)));
        dueRefused("24 points", STATE, t -> bit(t.point(FULL_PATH, 23, 4)));
        dueRefused("24 points, out of range", STATE, t -> bit(t.point(FULL_PATH, 23, OUT)));
        dueRefused("24 points, the latest", STATE, t -> bit(t.point(FULL_PATH, 23, 3)));
        dueRefused("x out of range", ARGUMENT, t -> bit(t.point(1, OUT, 9)));
        dueRefused("y out of range", ARGUMENT, t -> bit(t.point(1, 5, -OUT)));
        dueRefused("both out of range", ARGUMENT, t -> bit(t.point(1, OUT, OUT)));
        dueAnswered("the latest", 0, t -> bit(t.point(1, 5, 9)));
        dueAnswered("another x and y", 0, t -> bit(t.point(1, 6, 10)));
    }

    private static void place() {
        dueRefused("no such cell", INDEX, t -> t.place(4, 0, 0, 0, 0));
        dueRefused("no such cell, out of range", INDEX, t -> t.place(-1, 0, OUT, 0, 0));
        dueRefused("of no such cell", INDEX, t -> t.place(0, 4, 0, 0, 0));
        dueRefused("of no such cell, turn", INDEX, t -> t.place(0, -1, 0, 0, 8));
        dueRefused("no such cell in itself", INDEX, t -> t.place(4, 4, 0, 0, 0));
        dueRefused("x out of range", ARGUMENT, t -> t.place(0, 3, OUT, 0, 0));
        dueRefused("y out of range", ARGUMENT, t -> t.place(0, 3, 0, -OUT, 0));
        dueRefused("no such turn", ARGUMENT, t -> t.place(0, 3, 0, 0, -1));
        dueRefused("in itself, out of range", ARGUMENT, t -> t.place(0, 0, 0, OUT, 0));
        dueRefused("in itself, turn", ARGUMENT, t -> t.place(0, 2, 0, 0, 8));
        dueAnswered("in itself", -1, t -> t.place(0, 0, 0, 0, 0));
        dueAnswered("in itself, over another", -1, t -> t.place(0, 2, 0, 0, 0));
        dueRefusedWhenFull("a place", STATE, t -> t.place(0, 3, 0, 0, 0));
        dueRefusedWhenFull("out of range", STATE, t -> t.place(0, 3, OUT, 0, 0));
        dueRefusedWhenFull("no such turn", STATE, t -> t.place(0, 3, 0, 0, 8));
        dueRefusedWhenFull("in itself", STATE, t -> t.place(0, 0, 0, 0, 0));
        dueRefusedWhenFull("no such cell", INDEX, t -> t.place(20, 3, 0, 0, 0));
        dueRefusedWhenFull("of no such cell", INDEX, t -> t.place(0, 20, 0, 0, 0));
    }

    private static void array() {
        dueRefused("no such place", INDEX, t -> t.array(2, 1, 1, 0, 0));
        dueRefused("no such place, columns", INDEX, t -> t.array(-1, 0, 1, 0, 0));
        dueRefused("no such place, out of range", INDEX, t -> t.array(2, 1, 1, OUT, 0));
        dueRefused("columns", ARGUMENT, t -> t.array(0, 0, 1, 0, 0));
        dueRefused("rows", ARGUMENT, t -> t.array(0, 1, 21, 0, 0));
        dueRefused("dx", ARGUMENT, t -> t.array(0, 1, 1, OUT, 0));
        dueRefused("dy", ARGUMENT, t -> t.array(0, 1, 1, 0, -OUT));
        dueRefused("dy behind a good dx", ARGUMENT, t -> t.array(0, 2, 2, 7, OUT));
    }

    private static void box() {
        dueRefused("no such cell", INDEX, t -> t.box(4, 0, 0));
        dueRefused("no such layer", INDEX, t -> t.box(0, 2, 0));
        dueRefused("no such side", INDEX, t -> t.box(0, 0, 4));
        dueRefused("no shapes", STATE, t -> t.box(3, 0, 0));
        dueRefused("no shapes, no such layer", INDEX, t -> t.box(3, 2, 0));
        dueRefused("no shapes, no such side", INDEX, t -> t.box(3, 0, -1));
    }

    private static void flat() {
        dueRefused("no such cell", INDEX, t -> t.flat(4, 0));
        dueRefused("no such layer", INDEX, t -> t.flat(0, 2));
        dueRefused("too many", UNSUPPORTED, t -> t.flat(2, 0));
        dueRefused("too many, no such layer", INDEX, t -> t.flat(2, -1));
    }

    private static void at() {
        dueRefused("no such shape", INDEX, t -> t.at(18, 0, 0));
        dueRefused("no such corner", INDEX, t -> t.at(0, 3, 0));
        dueRefused("no such axis", INDEX, t -> t.at(0, 0, 2));
    }

    private static void equalTo() {
        dueRefused("no such cell, too many below", INDEX, t -> t.equalTo(4));
        dueRefused("no such cell", INDEX, t -> t.equalTo(-1));
        dueRefused("too many", UNSUPPORTED, t -> t.equalTo(2));
        dueRefused("too many below", UNSUPPORTED, t -> t.equalTo(3));
    }

    private static void find() {
        dueRefused("no such cell", INDEX, t -> t.find(4, 0, 0, 0, 0));
        dueRefused("no such cell, inside out", INDEX, t -> t.find(-1, 1, 0, 0, 0));
        dueRefused("no such cell, out of range", INDEX, t -> t.find(4, 0, 0, OUT, 0));
        dueRefused("inside out", ARGUMENT, t -> t.find(0, 0, 1, 0, 0));
        dueRefused("out of range", ARGUMENT, t -> t.find(0, 0, 0, 0, OUT));
        dueRefused("too many", UNSUPPORTED, t -> t.find(2, 0, 0, 0, 0));
        dueRefused("too many, inside out", ARGUMENT, t -> t.find(2, 1, 0, 0, 0));
        dueRefused("too many, out of range", ARGUMENT, t -> t.find(2, -OUT, 0, 0, 0));
    }

    private static void drop() {
        dueRefused("there never was one", INDEX, t -> bit(t.drop(9)));
        dueRefused("below all", INDEX, t -> bit(t.drop(-1)));
        dueAnswered("dropped before", 0, t -> bit(t.drop(DROPPED)));
    }

    public static void main(String[] args) {
        Watch.start();
        test("cell", RefusalsTest::cell);
        test("polygon", RefusalsTest::polygon);
        test("corner", RefusalsTest::corner);
        test("path", RefusalsTest::path);
        test("point", RefusalsTest::point);
        test("place", RefusalsTest::place);
        test("array", RefusalsTest::array);
        test("box", RefusalsTest::box);
        test("flat", RefusalsTest::flat);
        test("at", RefusalsTest::at);
        test("equalTo", RefusalsTest::equalTo);
        test("find", RefusalsTest::find);
        test("drop", RefusalsTest::drop);
        end();
    }
}
