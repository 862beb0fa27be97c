import java.util.ArrayList;
import java.util.Collections;
import java.util.HashMap;
import java.util.List;
import java.util.Map;
import java.util.Random;
import java.util.TreeMap;

/** Random runs, always the same ones, on the class and on a plain model that follows the document's words. */
public final class RandomRunsTest {
    private static final int RUNS = 1000;
    private static final int CALLS = 512;
    private static final long MOST_MODELLED = 20000;

    /** A shape as the model knows it, made or laid flat: points are pairs of x and y. */
    private static final class Form {
        int cell;
        int layer;
        boolean isPath;
        long width;
        int ends;
        boolean isDropped;
        List<long[]> points = new ArrayList<>();

        boolean isThere() {
            return !isDropped && points.size() >= (isPath ? 2 : 3);
        }

        Form placed(int turn, long x, long y) {
            Form f = new Form();
            f.layer = layer;
            f.isPath = isPath;
            f.width = width;
            f.ends = ends;
            for (long[] p : points) {
                long px = p[0];
                long py = turn >= 4 ? -p[1] : p[1];
                for (int i = 0; i < turn % 4; i++) {
                    long was = px;
                    px = -py;
                    py = was;
                }
                f.points.add(new long[] {px + x, py + y});
            }
            return f;
        }

        long[] box() {
            long[] b = {Long.MAX_VALUE, Long.MAX_VALUE, Long.MIN_VALUE, Long.MIN_VALUE};
            if (!isPath) {
                for (long[] p : points) {
                    stretch(b, p[0], p[1], p[0], p[1]);
                }
                return b;
            }
            int last = points.size() - 1;
            for (int i = 0; i < last; i++) {
                long[] p = points.get(i).clone();
                long[] q = points.get(i + 1).clone();
                int along = p[0] == q[0] ? 1 : 0;
                boolean isUp = q[along] > p[along];
                if (ends == 1 && i == 0) {
                    p[along] += isUp ? -width / 2 : width / 2;
                }
                if (ends == 1 && i == last - 1) {
                    q[along] += isUp ? width / 2 : -width / 2;
                }
                long[] half = {along == 0 ? 0 : width / 2, along == 0 ? width / 2 : 0};
                stretch(b, Math.min(p[0], q[0]) - half[0], Math.min(p[1], q[1]) - half[1],
                        Math.max(p[0], q[0]) + half[0], Math.max(p[1], q[1]) + half[1]);
            }
            return b;
        }

        /** The least of the texts of all its orders. */
        String text() {
            List<String> texts = new ArrayList<>();
            List<String> list = new ArrayList<>();
            for (long[] p : points) {
                list.add(p[0] + "," + p[1]);
            }
            for (int direction = 0; direction < 2; direction++) {
                for (int i = 0; i < (isPath ? 1 : list.size()); i++) {
                    texts.add(String.join(" ", list));
                    Collections.rotate(list, isPath ? 0 : 1);
                }
                Collections.reverse(list);
            }
            return layer + (isPath ? "path" + width + "/" + ends : "polygon") + ":" + Collections.min(texts);
        }
    }

    private static void stretch(long[] b, long x0, long y0, long x1, long y1) {
        b[0] = Math.min(b[0], x0);
        b[1] = Math.min(b[1], y0);
        b[2] = Math.max(b[2], x1);
        b[3] = Math.max(b[3], y1);
    }

    private static final class Spot {
        int cell;
        int of;
        long x;
        long y;
        int turn;
        int columns = 1;
        int rows = 1;
        long dx;
        long dy;
    }

    private static final class Unmodelled extends RuntimeException {
        private static final long serialVersionUID = 1;
    }

    private static final class Model {
        final int layers;
        int cells;
        final List<Form> forms = new ArrayList<>();
        final List<Spot> spots = new ArrayList<>();
        List<Form> hand = new ArrayList<>();

        Model(int layers) {
            this.layers = layers < 1 ? 1 : layers > 65536 ? 65536 : layers;
        }

        void index(boolean isWrong) {
            if (isWrong) {
                throw new IndexOutOfBoundsException();
            }
        }

        void state(boolean isWrong) {
            if (isWrong) {
                throw new IllegalStateException();
            }
        }

        void range(long... numbers) {
            for (long n : numbers) {
                if (n < -1000000 || n > 1000000) {
                    throw new IllegalArgumentException();
                }
            }
        }

        boolean noCell(int c) {
            return c < 0 || c >= cells;
        }

        boolean noLayer(int l) {
            return l < 0 || l >= layers;
        }

        long count(int cell, Map<Integer, Long> known) {
            if (known.containsKey(cell)) {
                return known.get(cell);
            }
            long n = forms.stream().filter(f -> f.cell == cell && f.isThere()).count();
            for (Spot s : spots) {
                if (s.cell == cell) {
                    n = Math.min(1000000000L, n + count(s.of, known) * s.columns * s.rows);
                }
            }
            known.put(cell, n);
            return n;
        }

        long count(int cell) {
            return count(cell, new HashMap<>());
        }

        List<Form> laid(int cell) {
            List<Form> all = new ArrayList<>();
            if (count(cell) > MOST_MODELLED) {
                throw new Unmodelled();
            }
            for (Form f : forms) {
                if (f.cell == cell && f.isThere()) {
                    all.add(f.placed(0, 0, 0));
                }
            }
            for (Spot s : spots) {
                if (s.cell != cell || count(s.of) == 0) {
                    continue;
                }
                List<Form> inner = laid(s.of);
                for (int j = 0; j < s.rows; j++) {
                    for (int i = 0; i < s.columns; i++) {
                        for (Form f : inner) {
                            all.add(f.placed(s.turn, s.x + i * s.dx, s.y + j * s.dy));
                        }
                    }
                }
            }
            return all;
        }

        void few(int cell) {
            if (count(cell) > 3000) {
                throw new UnsupportedOperationException();
            }
        }

        boolean holds(int cell, int wanted) {
            boolean[] in = new boolean[cells];
            in[cell] = true;
            for (int again = 0; again < cells; again++) {
                for (Spot s : spots) {
                    in[s.of] |= in[s.cell];
                }
            }
            return in[wanted];
        }

        long cell() {
            state(cells == 20);
            return cells++;
        }

        long shape(int cell, int layer, boolean isPath, long width, int ends) {
            index(noCell(cell) || noLayer(layer));
            state(forms.size() == 120);
            if (isPath && (width < 2 || width > 1000 || width % 2 != 0 || ends != 0 && ends != 1)) {
                throw new IllegalArgumentException();
            }
            Form f = new Form();
            f.cell = cell;
            f.layer = layer;
            f.isPath = isPath;
            f.width = width;
            f.ends = ends;
            forms.add(f);
            return forms.size() - 1;
        }

        long corner(int shape, boolean isPath, long x, long y) {
            index(shape < 0 || shape >= forms.size());
            Form f = forms.get(shape);
            index(f.isPath != isPath || f.isDropped);
            state(f.points.size() == 24);
            range(x, y);
            if (!f.points.isEmpty()) {
                long[] p = f.points.get(f.points.size() - 1);
                boolean isGood = isPath ? (p[0] == x) != (p[1] == y) : p[0] != x || p[1] != y;
                if (!isGood) {
                    return 0;
                }
            }
            f.points.add(new long[] {x, y});
            return 1;
        }

        long place(int cell, int of, long x, long y, int turn) {
            index(noCell(cell) || noCell(of));
            state(spots.size() == 80);
            range(x, y);
            if (turn < 0 || turn > 7) {
                throw new IllegalArgumentException();
            }
            if (holds(of, cell)) {
                return -1;
            }
            Spot s = new Spot();
            s.cell = cell;
            s.of = of;
            s.x = x;
            s.y = y;
            s.turn = turn;
            spots.add(s);
            return spots.size() - 1;
        }

        long array(int place, int columns, int rows, long dx, long dy) {
            index(place < 0 || place >= spots.size());
            if (columns < 1 || columns > 20 || rows < 1 || rows > 20) {
                throw new IllegalArgumentException();
            }
            range(dx, dy);
            Spot s = spots.get(place);
            s.columns = columns;
            s.rows = rows;
            s.dx = dx;
            s.dy = dy;
            return columns * rows;
        }

        long box(int cell, int layer, int side) {
            index(noCell(cell) || noLayer(layer) || side < 0 || side > 3);
            long[] b = {Long.MAX_VALUE, Long.MAX_VALUE, Long.MIN_VALUE, Long.MIN_VALUE};
            for (Form f : laid(cell)) {
                if (f.layer == layer) {
                    long[] c = f.box();
                    stretch(b, c[0], c[1], c[2], c[3]);
                }
            }
            state(b[0] > b[2]);
            return b[side];
        }

        long flat(int cell, int layer) {
            index(noCell(cell) || noLayer(layer));
            few(cell);
            hand = laid(cell);
            hand.removeIf(f -> f.layer != layer);
            return hand.size();
        }

        long at(int shape, int k, int axis) {
            index(shape < 0 || shape >= hand.size() || axis < 0 || axis > 1);
            index(k < 0 || k >= hand.get(shape).points.size());
            return hand.get(shape).points.get(k)[axis];
        }

        List<String> texts(int cell) {
            long[] b = {Long.MAX_VALUE, Long.MAX_VALUE, Long.MIN_VALUE, Long.MIN_VALUE};
            List<Form> all = laid(cell);
            for (Form f : all) {
                long[] c = f.box();
                stretch(b, c[0], c[1], c[2], c[3]);
            }
            List<String> texts = new ArrayList<>();
            for (Form f : all) {
                texts.add(f.placed(0, -b[0], -b[1]).text());
            }
            Collections.sort(texts);
            return texts;
        }

        long equalTo(int cell) {
            index(noCell(cell));
            for (int i = 0; i <= cell; i++) {
                few(i);
            }
            List<String> mine = texts(cell);
            for (int i = 0; i < cell; i++) {
                if (count(i) == mine.size() && texts(i).equals(mine)) {
                    return i;
                }
            }
            return -1;
        }

        long find(int cell, long x0, long y0, long x1, long y1) {
            index(noCell(cell));
            range(x0, y0, x1, y1);
            if (x0 > x1 || y0 > y1) {
                throw new IllegalArgumentException();
            }
            few(cell);
            return laid(cell).stream().map(Form::box)
                    .filter(b -> b[0] <= x1 && b[2] >= x0 && b[1] <= y1 && b[3] >= y0).count();
        }

        long drop(int shape) {
            index(shape < 0 || shape >= forms.size());
            boolean was = !forms.get(shape).isDropped;
            forms.get(shape).isDropped = true;
            return was ? 1 : 0;
        }
    }

    private interface Call {
        long answer();
    }

    private static final Map<String, Integer> seen = new TreeMap<>();

    private final Random random;
    private final int run;
    private final ShapeTrees real;
    private final Model model;
    private final long far;
    private final int mostCells;
    private final int mostColumns;
    private final List<String> told = new ArrayList<>();
    private int calls;
    private boolean isWrong;

    private RandomRunsTest(int run) {
        this.run = run;
        random = new Random(run);
        int layers = random.nextInt(8) == 0 ? random.nextInt(70000) - 1000 : 1 + random.nextInt(3);
        real = new ShapeTrees(layers);
        model = new Model(layers);
        told.add("new ShapeTrees(" + layers + ")");
        far = new long[] {2, 3, 12, 1000000}[random.nextInt(4)];
        mostCells = 2 + random.nextInt(20);
        mostColumns = new int[] {1, 2, 3, 20}[random.nextInt(4)];
    }

    private static String answer(Call call) {
        try {
            return "" + call.answer();
        } catch (IndexOutOfBoundsException | IllegalStateException | IllegalArgumentException
                | UnsupportedOperationException e) {
            String thrower = e.getStackTrace().length > 0 ? e.getStackTrace()[0].getClassName() : "the machine";
            boolean isOwn = thrower.startsWith("ShapeTrees") || thrower.startsWith("RandomRunsTest");
            return e.getClass().getSimpleName() + (isOwn ? "" : " of " + thrower);
        }
    }

    private long check(String name, String arguments, Call ofReal, Call ofModel) {
        if (isWrong || calls >= CALLS) {
            return 0;
        }
        calls++;
        String got = answer(ofReal);
        told.add(name + "(" + arguments + ") -> " + got);
        String want;
        try {
            want = answer(ofModel);
        } catch (Unmodelled e) {
            return 0;
        }
        boolean isNumber = !Character.isLetter(want.charAt(0));
        seen.merge(name + " " + (isNumber ? "answers" : want), 1, Integer::sum);
        if (!got.equals(want)) {
            isWrong = true;
            System.out.println("run " + run + ":");
            told.forEach(System.out::println);
            System.out.println("due is " + want);
        }
        return isNumber ? Long.parseLong(want) : 0;
    }

    private static long bit(boolean b) {
        return b ? 1 : 0;
    }

    private int number(int below) {
        int odd = random.nextInt(200);
        return odd == 0 ? -1 : odd == 1 ? below : below < 1 ? 0 : random.nextInt(below);
    }

    private int cellNumber() {
        return number(model.cells);
    }

    private int layer() {
        return model.layers > 3 && random.nextInt(3) > 0 ? model.layers - 1 : number(Math.min(model.layers, 3));
    }

    private long where() {
        return random.nextInt(300) == 0 ? far + 1000000 : random.nextInt((int) (2 * far + 1)) - far;
    }

    private long corner(int shape, long x, long y) {
        return check("corner", shape + ", " + x + ", " + y,
                () -> bit(real.corner(shape, x, y)), () -> model.corner(shape, false, x, y));
    }

    private long point(int shape, long x, long y) {
        return check("point", shape + ", " + x + ", " + y,
                () -> bit(real.point(shape, x, y)), () -> model.corner(shape, true, x, y));
    }

    private long polygon(int cell, int layer) {
        return check("polygon", cell + ", " + layer,
                () -> real.polygon(cell, layer), () -> model.shape(cell, layer, false, 0, 0));
    }

    private long path(int cell, int layer, long width, int ends) {
        return check("path", cell + ", " + layer + ", " + width + ", " + ends,
                () -> real.path(cell, layer, width, ends), () -> model.shape(cell, layer, true, width, ends));
    }

    private void makePolygon() {
        int made = (int) polygon(cellNumber(), layer());
        int n = random.nextInt(10) == 0 ? random.nextInt(30) : 2 + random.nextInt(4);
        for (int i = 0; i < n; i++) {
            corner(made, where(), where());
        }
    }

    private void makePath() {
        long width = random.nextInt(20) == 0 ? random.nextInt(1100) - 10 : 2 + 2 * random.nextInt(2);
        int made = (int) path(cellNumber(), layer(), width, number(2));
        int n = random.nextInt(10) == 0 ? random.nextInt(30) : 1 + random.nextInt(4);
        long x = where();
        long y = where();
        for (int i = 0; i < n; i++) {
            point(made, x, y);
            x = random.nextBoolean() ? where() : x;
            y = random.nextBoolean() ? where() : y;
        }
    }

    /** All shapes of a cell again in another one, moved, in another order, from another corner on. */
    private void copyCell() {
        if (model.cells < 2) {
            return;
        }
        int from = random.nextInt(model.cells);
        int to = freshCell();
        long mx = random.nextInt(3);
        long my = random.nextInt(3);
        List<Form> copied = new ArrayList<>(model.forms);
        copied.removeIf(f -> f.cell != from || f.isDropped || f.points.isEmpty());
        Collections.shuffle(copied, random);
        for (Form f : copied) {
            List<long[]> points = new ArrayList<>(f.points);
            if (random.nextBoolean()) {
                Collections.reverse(points);
            }
            if (!f.isPath) {
                Collections.rotate(points, random.nextInt(points.size()));
            }
            int made = (int) (f.isPath ? path(to, f.layer, f.width, f.ends) : polygon(to, f.layer));
            for (long[] p : points) {
                if (f.isPath) {
                    point(made, p[0] + mx, p[1] + my);
                } else {
                    corner(made, p[0] + mx, p[1] + my);
                }
            }
        }
        askEqual(to);
    }

    private int freshCell() {
        if (model.cells >= 20 || random.nextInt(4) == 0) {
            return cellNumber();
        }
        return (int) check("cell", "", real::cell, model::cell);
    }

    private void placeOne() {
        place(cellNumber(), cellNumber(), number(8));
    }

    /** A cell in another one, and in a third one that is in a fourth one, turned in all as often. */
    private void placeTwins() {
        int of = cellNumber();
        int turn = random.nextInt(4);
        int mirror = 4 * random.nextInt(2);
        int first = freshCell();
        int middle = freshCell();
        int last = freshCell();
        place(first, of, mirror);
        place(middle, of, turn);
        place(last, middle, mirror + (mirror > 0 ? turn : (4 - turn) % 4));
        askEqual(last);
    }

    private void place(int cell, int of, int turn) {
        long x = where();
        long y = where();
        check("place", cell + ", " + of + ", " + x + ", " + y + ", " + turn,
                () -> real.place(cell, of, x, y, turn), () -> model.place(cell, of, x, y, turn));
    }

    private void makeArray() {
        int place = number(model.spots.size());
        int columns = 1 + number(mostColumns);
        int rows = 1 + number(mostColumns);
        long dx = where();
        long dy = where();
        check("array", place + ", " + columns + ", " + rows + ", " + dx + ", " + dy,
                () -> real.array(place, columns, rows, dx, dy), () -> model.array(place, columns, rows, dx, dy));
    }

    private void askBox() {
        int cell = cellNumber();
        int layer = layer();
        for (int i = 0; i < 4; i++) {
            int side = random.nextInt(50) == 0 ? number(4) : i;
            check("box", cell + ", " + layer + ", " + side,
                    () -> real.box(cell, layer, side), () -> model.box(cell, layer, side));
        }
    }

    private void layFlat() {
        int cell = cellNumber();
        int layer = layer();
        check("flat", cell + ", " + layer, () -> real.flat(cell, layer), () -> model.flat(cell, layer));
        askAt();
    }

    private void askAt() {
        for (int i = 0; i < 4; i++) {
            int shape = number(model.hand.size());
            boolean isThere = shape >= 0 && shape < model.hand.size();
            int k = number(isThere ? model.hand.get(shape).points.size() : 3);
            int axis = number(2);
            check("at", shape + ", " + k + ", " + axis, () -> real.at(shape, k, axis), () -> model.at(shape, k, axis));
        }
    }

    private void askEqual(int cell) {
        check("equalTo", "" + cell, () -> real.equalTo(cell), () -> model.equalTo(cell));
        if (told.get(told.size() - 1).matches("equalTo.*> \\d+") && model.count(cell) > 0) {
            boolean isPlaced = model.spots.stream().anyMatch(s -> s.cell == cell && model.count(s.of) > 0);
            seen.merge(isPlaced ? "equalTo finds one, with places" : "equalTo finds one", 1, Integer::sum);
        }
    }

    private void askFind() {
        int cell = cellNumber();
        boolean isAny = random.nextInt(10) == 0;
        long ax = where();
        long ay = where();
        long bx = where();
        long by = where();
        long x0 = isAny ? ax : Math.min(ax, bx);
        long y0 = isAny ? ay : Math.min(ay, by);
        long x1 = isAny ? bx : Math.max(ax, bx);
        long y1 = isAny ? by : Math.max(ay, by);
        check("find", cell + ", " + x0 + ", " + y0 + ", " + x1 + ", " + y1,
                () -> real.find(cell, x0, y0, x1, y1), () -> model.find(cell, x0, y0, x1, y1));
    }

    private void dropOne() {
        int shape = number(model.forms.size());
        check("drop", "" + shape, () -> bit(real.drop(shape)), () -> model.drop(shape));
    }

    private void addOne() {
        int shape = number(model.forms.size());
        if (random.nextBoolean()) {
            corner(shape, where(), where());
        } else {
            point(shape, where(), where());
        }
    }

    private void step() {
        switch (random.nextInt(17)) {
            case 0: case 1: makePolygon(); break;
            case 2: makePath(); break;
            case 3: case 4: placeOne(); break;
            case 5: makeArray(); break;
            case 6: askBox(); break;
            case 7: layFlat(); break;
            case 8: askAt(); break;
            case 9: case 10: askEqual(cellNumber()); break;
            case 11: askFind(); break;
            case 12: dropOne(); break;
            case 13: addOne(); break;
            case 14: copyCell(); break;
            case 15: placeTwins(); break;
            default:
                if (model.cells < mostCells || random.nextInt(10) == 0) {
                    check("cell", "", real::cell, model::cell);
                }
        }
    }

    public static void main(String[] args) {
        Watch.start();
        int wrong = 0;
        for (int run = 0; run < RUNS && wrong < 3; run++) {
            RandomRunsTest test = new RandomRunsTest(run);
            for (int i = 0; i < CALLS && test.calls < CALLS && !test.isWrong; i++) {
                test.step();
            }
            wrong += test.isWrong ? 1 : 0;
        }
        if (args.length > 0) {
            System.out.println(seen);
        }
        System.out.println(RUNS + " random runs, " + wrong + " wrong");
        if (wrong != 0) {
            System.exit(1);
        }
    }
}
