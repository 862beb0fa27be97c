import java.lang.management.ManagementFactory;

/** The dearest calls make no objects, the longest runs stay small, and all of them end soon. */
public final class RoomTest {
    private static final long MOST_BYTES_OF_AN_OBJECT = 2000000;
    /** With the tower's own calls just under the 512 for which an object is used. */
    private static final int ROUNDS = 13;

    private static int wrong;

    private static long bytes() {
        com.sun.management.ThreadMXBean bean =
                (com.sun.management.ThreadMXBean) ManagementFactory.getThreadMXBean();
        return bean.getThreadAllocatedBytes(Thread.currentThread().getId());
    }

    private static void check(String what, boolean isRight) {
        if (!isRight) {
            wrong++;
            System.out.println("wrong: " + what);
        }
    }

    /** Twenty cells, each of 3000 flat shapes in as deep a tower as can be, all but two of them unequal. */
    private static ShapeTrees tower() {
        ShapeTrees t = new ShapeTrees(2);
        for (int i = 0; i < 20; i++) {
            t.cell();
        }
        for (int i = 0; i < 15; i++) {
            int made = t.polygon(0, i % 2);
            for (int k = 0; k < 24; k++) {
                t.corner(made, k * k % 7, k * (i + 3) % 11);
            }
        }
        int first = t.place(1, 0, 0, 0, 5);
        t.array(first, 20, 10, 3, 5);
        for (int i = 2; i < 20; i++) {
            t.place(i, i - 1, i, -i, i % 8);
        }
        return t;
    }

    /** Every kind of dear call; what is kept is small, so the object alone may be counted. */
    private static long dearCalls(ShapeTrees t, int times) {
        long sum = 0;
        for (int i = 0; i < times; i++) {
            sum += t.flat(19, i % 2);
            sum += t.at(i, 3, 1);
            sum += t.equalTo(19);
            sum += t.equalTo(18 - i % 10);
            sum += t.find(19, -1000000, -1000000, 1000000, 1000000);
            sum += t.box(19, i % 2, i % 4);
            sum += t.place(1, 19, 0, 0, 0);
        }
        return sum;
    }

    /** Each cell four times in the next one: no call may go down every way. */
    private static void manyWays() {
        ShapeTrees t = new ShapeTrees(1);
        t.cell();
        for (int i = 1; i < 20; i++) {
            t.cell();
            for (int k = 0; k < 4; k++) {
                t.place(i, i - 1, k, i, k);
            }
        }
        check("nothing laid flat", t.flat(19, 0) == 0);
        check("no cell is in itself", t.place(0, 19, 0, 0, 0) == ShapeTrees.NONE);
        check("a cell once more in the other", t.place(19, 0, 0, 0, 0) == 76);
        int made = t.polygon(0, 0);
        for (int k = 0; k < 3; k++) {
            t.corner(made, k, k * k);
        }
        check("a box", t.box(19, 0, 0) < t.box(19, 0, 2));
        boolean isRefused = false;
        try {
            t.flat(19, 0);
        } catch (UnsupportedOperationException e) {
            isRefused = true;
        }
        check("too many to lay flat", isRefused);
    }

    public static void main(String[] args) {
        Watch.start();
        manyWays();
        bytes();
        long before = bytes();
        ShapeTrees t = tower();
        long made = bytes() - before;
        check("an object takes " + made + " bytes", made <= MOST_BYTES_OF_AN_OBJECT);

        check("the tower has 3000 shapes", t.find(19, -1000000, -1000000, 1000000, 1000000) == 3000);
        // Once before it counts: what the machine itself makes at the first time is not the class's.
        dearCalls(tower(), ROUNDS);
        before = bytes();
        dearCalls(t, ROUNDS);
        long called = bytes() - before;
        check("dear calls make " + called + " bytes", called <= 2000);

        System.out.println("an object: " + made + " bytes, " + 7 * ROUNDS + " dear calls: " + called + " bytes, "
                + wrong + " wrong");
        if (wrong != 0) {
            System.exit(1);
        }
    }
}
