/** What the tests of single calls share: answers that are due, and short ways to make cells and shapes. */
abstract class Dues {
    interface Call {
        long answer();
    }

    static final Class<?> INDEX = IndexOutOfBoundsException.class;
    static final Class<?> STATE = IllegalStateException.class;
    static final Class<?> ARGUMENT = IllegalArgumentException.class;
    static final Class<?> UNSUPPORTED = UnsupportedOperationException.class;
    static final int LOW = Integer.MIN_VALUE;
    static final int HIGH = Integer.MAX_VALUE;
    static final long FAR = 1000000;
    /** Numbers out of the range of x and y; some of them are in it when they lose their upper half. */
    static final long[] TOO_FAR = {-FAR - 1, FAR + 1, 1L << 32, -(1L << 32), Long.MIN_VALUE, Long.MAX_VALUE};
    static final long[] TRIANGLE = {0, 0, 1, 0, 0, 1};

    private static String tested = "";
    private static int checks;
    private static int wrong;

    static void test(String what, Runnable test) {
        tested = what;
        int before = checks;
        test.run();
        if (checks == before) {
            complain("the test", "nothing", "a check");
        }
    }

    static void end() {
        System.out.println(checks + " checks, " + wrong + " wrong");
        if (wrong != 0) {
            System.exit(1);
        }
    }

    private static void complain(String what, String got, String want) {
        wrong++;
        System.out.println(tested + ": " + what + " answered " + got + ", due is " + want);
    }

    /** The answer, or the name of the very class that is thrown, by a line of ShapeTrees and not by the library. */
    static String told(Call call) {
        try {
            return "" + call.answer();
        } catch (RuntimeException e) {
            StackTraceElement[] lines = e.getStackTrace();
            boolean isOwn = lines.length > 0 && lines[0].getClassName().startsWith("ShapeTrees");
            return e.getClass().getSimpleName() + (isOwn ? "" : ", not thrown by ShapeTrees itself");
        }
    }

    static void dueText(String what, String want, String got) {
        checks++;
        if (!got.equals(want)) {
            complain(what, got, want);
        }
    }

    static void due(String what, long want, Call call) {
        dueText(what, "" + want, told(call));
    }

    static void dueThrow(String what, Class<?> want, Call call) {
        dueText(what, want.getSimpleName(), told(call));
    }

    static long bit(boolean answer) {
        return answer ? 1 : 0;
    }

    static ShapeTrees withCells(int layers, int cells) {
        ShapeTrees t = new ShapeTrees(layers);
        for (int i = 0; i < cells; i++) {
            t.cell();
        }
        return t;
    }

    static int polygon(ShapeTrees t, int cell, int layer, long... xy) {
        int made = t.polygon(cell, layer);
        for (int i = 0; i + 1 < xy.length; i += 2) {
            t.corner(made, xy[i], xy[i + 1]);
        }
        return made;
    }

    static int path(ShapeTrees t, int cell, int layer, long width, int ends, long... xy) {
        int made = t.path(cell, layer, width, ends);
        for (int i = 0; i + 1 < xy.length; i += 2) {
            t.point(made, xy[i], xy[i + 1]);
        }
        return made;
    }

    static int arrayPlace(ShapeTrees t, int cell, int of, int columns, int rows) {
        int made = t.place(cell, of, 0, 0, 0);
        t.array(made, columns, rows, 0, 0);
        return made;
    }

    static void dueBox(ShapeTrees t, String what, int cell, int layer, long... sides) {
        for (int side = 0; side < 4; side++) {
            int s = side;
            due(what + ", side " + s, sides[s], () -> t.box(cell, layer, s));
        }
    }

    static void dueNoBox(ShapeTrees t, String what, int cell, int layer) {
        for (int side = 0; side < 4; side++) {
            int s = side;
            dueThrow(what + ", side " + s, STATE, () -> t.box(cell, layer, s));
        }
    }

    /** These corners and no more. */
    static void dueCorners(ShapeTrees t, String what, int shape, long... xy) {
        for (int i = 0; i < xy.length; i++) {
            int j = i;
            due(what + ", corner " + i / 2 + " axis " + i % 2, xy[i], () -> t.at(shape, j / 2, j % 2));
        }
        dueThrow(what + ", one corner more", INDEX, () -> t.at(shape, xy.length / 2, 0));
    }
}
