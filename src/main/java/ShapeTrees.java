import java.util.ArrayList;
import java.util.Arrays;

/**
 * Layouts: cells with polygons and paths on layers, and with other cells in
 * places, turned, mirrored and in arrays.
 */
public final class ShapeTrees {
    public static final int NONE = -1;

    private static final int MOST_LAYERS = 65536;
    private static final int MOST_CELLS = 20;
    private static final int MOST_SHAPES = 120;
    private static final int MOST_CORNERS = 24;
    private static final int MOST_PLACES = 80;
    private static final int MOST_COLUMNS_OR_ROWS = 20;
    private static final int MOST_FLAT = 3000;
    private static final int TURNS = 8;
    private static final long FARTHEST = 1000000L;
    private static final long WIDEST = 1000L;
    private static final int ALL_LAYERS = -1;

    private final int layers;
    private final ArrayList<Cell> cells = new ArrayList<>();
    private final ArrayList<Shape> shapes = new ArrayList<>();
    private final ArrayList<Place> places = new ArrayList<>();
    private final Flat atHand = new Flat();
    // Rows for find and equalTo, which leave what is at hand alone.
    private final Flat mine = new Flat();
    private final Flat theirs = new Flat();
    private final Box spareBox = new Box();

    public ShapeTrees(int layers) {
        this.layers = Math.max(1, Math.min(layers, MOST_LAYERS));
    }

    public int cell() throws IllegalStateException {
        if (cells.size() >= MOST_CELLS) {
            throw new IllegalStateException("no more cells");
        }
        cells.add(new Cell());
        return cells.size() - 1;
    }

    public int polygon(int cell, int layer) throws IndexOutOfBoundsException, IllegalStateException {
        Cell owner = knownCell(cell);
        checkLayer(layer);
        checkShapesLeft();
        return keepShape(owner, new Shape(layer, 0, 0));
    }

    public boolean corner(int polygon, long x, long y)
            throws IndexOutOfBoundsException, IllegalStateException, IllegalArgumentException {
        return extend(openShape(polygon, false), x, y);
    }

    public int path(int cell, int layer, long width, int ends)
            throws IndexOutOfBoundsException, IllegalStateException, IllegalArgumentException {
        Cell owner = knownCell(cell);
        checkLayer(layer);
        checkShapesLeft();
        if (width < 2 || width > WIDEST || width % 2 != 0) {
            throw new IllegalArgumentException("no such width");
        }
        if (ends < 0 || ends > 1) {
            throw new IllegalArgumentException("no such ends");
        }
        return keepShape(owner, new Shape(layer, width, ends));
    }

    public boolean point(int path, long x, long y)
            throws IndexOutOfBoundsException, IllegalStateException, IllegalArgumentException {
        return extend(openShape(path, true), x, y);
    }

    public int place(int cell, int of, long x, long y, int turn)
            throws IndexOutOfBoundsException, IllegalStateException, IllegalArgumentException {
        Cell owner = knownCell(cell);
        Cell other = knownCell(of);
        if (places.size() >= MOST_PLACES) {
            throw new IllegalStateException("no more places");
        }
        checkNear(x);
        checkNear(y);
        if (turn < 0 || turn >= TURNS) {
            throw new IllegalArgumentException("no such turn");
        }
        if (wouldHoldItself(owner, other)) {
            return NONE;
        }
        Place made = new Place(other, x, y, turn);
        places.add(made);
        owner.places.add(made);
        return places.size() - 1;
    }

    public int array(int place, int columns, int rows, long dx, long dy)
            throws IndexOutOfBoundsException, IllegalArgumentException {
        if (place < 0 || place >= places.size()) {
            throw new IndexOutOfBoundsException("no such place");
        }
        if (columns < 1 || columns > MOST_COLUMNS_OR_ROWS || rows < 1 || rows > MOST_COLUMNS_OR_ROWS) {
            throw new IllegalArgumentException("no such columns or rows");
        }
        checkNear(dx);
        checkNear(dy);
        Place changed = places.get(place);
        changed.columns = columns;
        changed.rows = rows;
        changed.dx = dx;
        changed.dy = dy;
        return changed.copies();
    }

    public long box(int cell, int layer, int side) throws IndexOutOfBoundsException, IllegalStateException {
        Cell measured = knownCell(cell);
        checkLayer(layer);
        if (side < 0 || side > 3) {
            throw new IndexOutOfBoundsException("no such side");
        }
        measureCells(layer);
        if (measured.size == 0) {
            throw new IllegalStateException("no shapes on the layer");
        }
        return measured.box.side(side);
    }

    public int flat(int cell, int layer) throws IndexOutOfBoundsException, UnsupportedOperationException {
        Cell laid = knownCell(cell);
        checkLayer(layer);
        measureCells(ALL_LAYERS);
        checkFewShapes(laid);
        atHand.lay(laid, layer);
        return atHand.count;
    }

    public long at(int shape, int k, int axis) throws IndexOutOfBoundsException {
        if (shape < 0 || shape >= atHand.count) {
            throw new IndexOutOfBoundsException("no such shape at hand");
        }
        if (k < 0 || k >= atHand.corners[shape]) {
            throw new IndexOutOfBoundsException("no such corner");
        }
        if (axis < 0 || axis > 1) {
            throw new IndexOutOfBoundsException("no such axis");
        }
        return axis == 0 ? atHand.cornerX(shape, k) : atHand.cornerY(shape, k);
    }

    public int equalTo(int cell) throws IndexOutOfBoundsException, UnsupportedOperationException {
        Cell wanted = knownCell(cell);
        measureCells(ALL_LAYERS);
        for (int i = 0; i <= cell; i++) {
            checkFewShapes(cells.get(i));
        }
        boolean laid = false;
        for (int i = 0; i < cell; i++) {
            Cell other = cells.get(i);
            if (!sameSize(wanted, other)) {
                continue;
            }
            if (!laid) {
                mine.layFromZero(wanted);
                laid = true;
            }
            theirs.layFromZero(other);
            if (mine.hasSameShapes(theirs)) {
                return i;
            }
        }
        return NONE;
    }

    public int find(int cell, long x0, long y0, long x1, long y1)
            throws IndexOutOfBoundsException, IllegalArgumentException, UnsupportedOperationException {
        Cell searched = knownCell(cell);
        checkNear(x0);
        checkNear(y0);
        checkNear(x1);
        checkNear(y1);
        if (x0 > x1 || y0 > y1) {
            throw new IllegalArgumentException("the box is inside out");
        }
        measureCells(ALL_LAYERS);
        checkFewShapes(searched);
        mine.lay(searched, ALL_LAYERS);
        int found = 0;
        for (int i = 0; i < mine.count; i++) {
            spareBox.become(mine.shapes[i].box, mine.turns[i], mine.xs[i], mine.ys[i]);
            if (spareBox.touches(x0, y0, x1, y1)) {
                found++;
            }
        }
        return found;
    }

    public boolean drop(int polygon) throws IndexOutOfBoundsException {
        Shape shape = knownShape(polygon);
        boolean wasThere = !shape.dropped;
        shape.dropped = true;
        return wasThere;
    }

    private Cell knownCell(int cell) {
        if (cell < 0 || cell >= cells.size()) {
            throw new IndexOutOfBoundsException("no such cell");
        }
        return cells.get(cell);
    }

    private Shape knownShape(int shape) {
        if (shape < 0 || shape >= shapes.size()) {
            throw new IndexOutOfBoundsException("no such shape");
        }
        return shapes.get(shape);
    }

    private Shape openShape(int number, boolean asPath) {
        Shape shape = knownShape(number);
        if (shape.dropped || shape.isPath() != asPath) {
            throw new IndexOutOfBoundsException("no such polygon or path");
        }
        return shape;
    }

    private void checkLayer(int layer) {
        if (layer < 0 || layer >= layers) {
            throw new IndexOutOfBoundsException("no such layer");
        }
    }

    private void checkShapesLeft() {
        if (shapes.size() >= MOST_SHAPES) {
            throw new IllegalStateException("no more shapes");
        }
    }

    private static void checkNear(long number) {
        if (number < -FARTHEST || number > FARTHEST) {
            throw new IllegalArgumentException("out of range");
        }
    }

    private static void checkFewShapes(Cell cell) {
        if (cell.size > MOST_FLAT) {
            throw new UnsupportedOperationException("too many shapes laid flat");
        }
    }

    private int keepShape(Cell owner, Shape made) {
        shapes.add(made);
        owner.shapes.add(made);
        return shapes.size() - 1;
    }

    private static boolean extend(Shape shape, long x, long y) {
        if (shape.count >= MOST_CORNERS) {
            throw new IllegalStateException("no more corners or points");
        }
        checkNear(x);
        checkNear(y);
        if (!shape.takes(x, y)) {
            return false;
        }
        shape.add(x, y);
        return true;
    }

    private boolean wouldHoldItself(Cell owner, Cell other) {
        for (int i = 0; i < cells.size(); i++) {
            cells.get(i).seen = false;
        }
        return isWithin(owner, other, 0);
    }

    private static boolean isWithin(Cell wanted, Cell cell, int depth) {
        if (cell == wanted) {
            return true;
        }
        if (cell.seen || depth > MOST_CELLS) {
            return false;
        }
        cell.seen = true;
        for (int i = 0; i < cell.places.size(); i++) {
            if (isWithin(wanted, cell.places.get(i).of, depth + 1)) {
                return true;
            }
        }
        return false;
    }

    private void measureCells(int layer) {
        for (int i = 0; i < cells.size(); i++) {
            cells.get(i).measured = false;
        }
        for (int i = 0; i < cells.size(); i++) {
            measure(cells.get(i), layer, 0);
        }
    }

    private static void measure(Cell cell, int layer, int depth) {
        if (cell.measured || depth > MOST_CELLS) {
            return;
        }
        cell.measured = true;
        cell.measureOwn(layer);
        for (int i = 0; i < cell.places.size(); i++) {
            Place place = cell.places.get(i);
            measure(place.of, layer, depth + 1);
            cell.measureWith(place);
        }
    }

    private static boolean sameSize(Cell one, Cell other) {
        if (one.size != other.size) {
            return false;
        }
        return one.size == 0 || one.box.width() == other.box.width() && one.box.height() == other.box.height();
    }

    private static long turnedX(int turn, long x, long y) {
        switch (turn) {
            case 0:
            case 4:
                return x;
            case 1:
            case 7:
                return -y;
            case 2:
            case 6:
                return -x;
            default:
                return y;
        }
    }

    private static long turnedY(int turn, long x, long y) {
        switch (turn) {
            case 0:
            case 6:
                return y;
            case 1:
            case 5:
                return x;
            case 2:
            case 4:
                return -y;
            default:
                return -x;
        }
    }

    /** The turn that does the inner one first and the outer one then; a mirror makes turns go the other way. */
    private static int bothTurns(int outer, int inner) {
        int quarters = outer >= 4 ? outer - inner : outer + inner;
        return (quarters & 3) | ((outer ^ inner) & 4);
    }

    private static final class Box {
        private long x0;
        private long y0;
        private long x1;
        private long y1;
        private boolean isNothing = true;

        void clear() {
            isNothing = true;
        }

        void hold(long left, long bottom, long right, long top) {
            x0 = isNothing ? left : Math.min(x0, left);
            y0 = isNothing ? bottom : Math.min(y0, bottom);
            x1 = isNothing ? right : Math.max(x1, right);
            y1 = isNothing ? top : Math.max(y1, top);
            isNothing = false;
        }

        void holdBox(Box other) {
            hold(other.x0, other.y0, other.x1, other.y1);
        }

        void become(Box other, int turn, long x, long y) {
            long ax = turnedX(turn, other.x0, other.y0);
            long ay = turnedY(turn, other.x0, other.y0);
            long bx = turnedX(turn, other.x1, other.y1);
            long by = turnedY(turn, other.x1, other.y1);
            clear();
            hold(x + Math.min(ax, bx), y + Math.min(ay, by), x + Math.max(ax, bx), y + Math.max(ay, by));
        }

        /** Holds itself moved by x and y, too. */
        void stretch(long x, long y) {
            hold(x0 + x, y0 + y, x1 + x, y1 + y);
        }

        boolean touches(long left, long bottom, long right, long top) {
            return x0 <= right && x1 >= left && y0 <= top && y1 >= bottom;
        }

        long side(int side) {
            switch (side) {
                case 0:
                    return x0;
                case 1:
                    return y0;
                case 2:
                    return x1;
                default:
                    return y1;
            }
        }

        long width() {
            return x1 - x0;
        }

        long height() {
            return y1 - y0;
        }
    }

    private static final class Cell {
        private final ArrayList<Shape> shapes = new ArrayList<>();
        private final ArrayList<Place> places = new ArrayList<>();
        private boolean seen;
        private boolean measured;
        // How many flat shapes on the measured layers, all above the limit being the same, and their box.
        private int size;
        private final Box box = new Box();

        void measureOwn(int layer) {
            size = 0;
            box.clear();
            for (int i = 0; i < shapes.size(); i++) {
                Shape shape = shapes.get(i);
                if (shape.isOn(layer)) {
                    size++;
                    box.holdBox(shape.box);
                }
            }
        }

        void measureWith(Place place) {
            if (place.of.size == 0) {
                return;
            }
            size = Math.min(size + place.copies() * place.of.size, MOST_FLAT + 1);
            place.measureBox();
            box.holdBox(place.box);
        }
    }

    private static final class Place {
        private final Cell of;
        private final long x;
        private final long y;
        private final int turn;
        private final Box box = new Box();
        private int columns = 1;
        private int rows = 1;
        private long dx;
        private long dy;

        Place(Cell of, long x, long y, int turn) {
            this.of = of;
            this.x = x;
            this.y = y;
            this.turn = turn;
        }

        int copies() {
            return columns * rows;
        }

        void measureBox() {
            box.become(of.box, turn, x, y);
            box.stretch((columns - 1) * dx, (rows - 1) * dy);
        }
    }

    /** A polygon, which has width 0, or a path. */
    private static final class Shape {
        private final int layer;
        private final long width;
        private final int ends;
        // What is there is never changed, so that shapes at hand can still use it when the shape grows or is dropped.
        private final long[] xs = new long[MOST_CORNERS];
        private final long[] ys = new long[MOST_CORNERS];
        private int count;
        private boolean dropped;
        private final Box box = new Box();
        // For each turn the order of the corners that is least when turned; a step of 0: not yet known.
        private final int[] firsts = new int[TURNS];
        private final int[] steps = new int[TURNS];

        Shape(int layer, long width, int ends) {
            this.layer = layer;
            this.width = width;
            this.ends = ends;
        }

        boolean isPath() {
            return width > 0;
        }

        boolean isOn(int wantedLayer) {
            boolean isEmpty = count < (isPath() ? 2 : 3);
            return !dropped && !isEmpty && (wantedLayer == ALL_LAYERS || wantedLayer == layer);
        }

        boolean takes(long x, long y) {
            int latest = count - 1;
            if (latest < 0) {
                return true;
            }
            boolean isOtherX = xs[latest] != x;
            boolean isOtherY = ys[latest] != y;
            return isPath() ? isOtherX != isOtherY : isOtherX || isOtherY;
        }

        void add(long x, long y) {
            if (count >= MOST_CORNERS) {
                return;
            }
            xs[count] = x;
            ys[count] = y;
            count++;
            Arrays.fill(steps, 0);
            if (isPath()) {
                measurePieces();
            } else {
                box.hold(x, y, x, y);
            }
        }

        /** All anew: with one more point, the piece that was the last one may end where it did not. */
        private void measurePieces() {
            box.clear();
            for (int k = 1; k < count; k++) {
                holdPiece(k);
            }
        }

        private void holdPiece(int k) {
            long half = width / 2;
            long before = ends == 1 && k == 1 ? half : 0;
            long behind = ends == 1 && k == count - 1 ? half : 0;
            int alongX = Long.signum(xs[k] - xs[k - 1]);
            int alongY = Long.signum(ys[k] - ys[k - 1]);
            long ax = xs[k - 1] - alongX * before;
            long ay = ys[k - 1] - alongY * before;
            long bx = xs[k] + alongX * behind;
            long by = ys[k] + alongY * behind;
            long acrossX = alongX == 0 ? half : 0;
            long acrossY = alongY == 0 ? half : 0;
            box.hold(Math.min(ax, bx) - acrossX, Math.min(ay, by) - acrossY,
                    Math.max(ax, bx) + acrossX, Math.max(ay, by) + acrossY);
        }

        void settleOrder(int turn) {
            if (steps[turn] != 0 || count == 0) {
                return;
            }
            firsts[turn] = 0;
            steps[turn] = 1;
            if (isPath()) {
                takeIfLess(turn, count - 1, -1);
                return;
            }
            for (int first = 0; first < count; first++) {
                takeIfLess(turn, first, 1);
                takeIfLess(turn, first, -1);
            }
        }

        private void takeIfLess(int turn, int first, int step) {
            int sign = 0;
            for (int k = 0; k < count && sign == 0; k++) {
                int tried = Math.floorMod(first + step * k, count);
                int best = orderedIndex(turn, k);
                sign = Long.compare(turnedX(turn, xs[tried], ys[tried]), turnedX(turn, xs[best], ys[best]));
                if (sign == 0) {
                    sign = Long.compare(turnedY(turn, xs[tried], ys[tried]), turnedY(turn, xs[best], ys[best]));
                }
            }
            if (sign < 0) {
                firsts[turn] = first;
                steps[turn] = step;
            }
        }

        int orderedIndex(int turn, int k) {
            return count == 0 ? 0 : Math.floorMod(firsts[turn] + steps[turn] * k, count);
        }

        int compareKind(Shape other) {
            int sign = Integer.compare(layer, other.layer);
            if (sign == 0) {
                sign = Long.compare(width, other.width);
            }
            if (sign == 0) {
                sign = Integer.compare(ends, other.ends);
            }
            if (sign == 0) {
                sign = Integer.compare(count, other.count);
            }
            return sign;
        }
    }

    /** The shapes of a cell laid flat: each one a shape as it was made, how it is turned and where it is moved. */
    private static final class Flat {
        private final Shape[] shapes = new Shape[MOST_FLAT];
        private final int[] corners = new int[MOST_FLAT];
        private final int[] turns = new int[MOST_FLAT];
        private final long[] xs = new long[MOST_FLAT];
        private final long[] ys = new long[MOST_FLAT];
        private int count;
        private int layer;
        // For comparing alone: what is the same whatever the order is, and the order by the shapes themselves.
        private long mark;
        private boolean isSorted;
        private final int[] order = new int[MOST_FLAT];
        private final int[] spare = new int[MOST_FLAT];

        /** The cell, already measured on all layers, must not have too many shapes. */
        void lay(Cell cell, int wantedLayer) {
            count = 0;
            layer = wantedLayer;
            layCell(cell, 0, 0, 0, 0);
        }

        private void layCell(Cell cell, int turn, long x, long y, int depth) {
            if (depth > MOST_CELLS) {
                return;
            }
            for (int i = 0; i < cell.shapes.size(); i++) {
                Shape shape = cell.shapes.get(i);
                if (shape.isOn(layer)) {
                    add(shape, turn, x, y);
                }
            }
            for (int i = 0; i < cell.places.size(); i++) {
                Place place = cell.places.get(i);
                // Arrays of arrays of nothing would be gone through for ages.
                if (place.of.size > 0) {
                    layPlace(place, turn, x, y, depth);
                }
            }
        }

        private void layPlace(Place place, int turn, long x, long y, int depth) {
            int innerTurn = bothTurns(turn, place.turn);
            for (int row = 0; row < place.rows; row++) {
                for (int column = 0; column < place.columns; column++) {
                    long px = place.x + column * place.dx;
                    long py = place.y + row * place.dy;
                    layCell(place.of, innerTurn, x + turnedX(turn, px, py), y + turnedY(turn, px, py), depth + 1);
                }
            }
        }

        private void add(Shape shape, int turn, long x, long y) {
            if (count >= MOST_FLAT) {
                return;
            }
            shapes[count] = shape;
            corners[count] = shape.count;
            turns[count] = turn;
            xs[count] = x;
            ys[count] = y;
            count++;
        }

        long cornerX(int i, int k) {
            return xs[i] + turnedX(turns[i], shapes[i].xs[k], shapes[i].ys[k]);
        }

        long cornerY(int i, int k) {
            return ys[i] + turnedY(turns[i], shapes[i].xs[k], shapes[i].ys[k]);
        }

        /** Moved so that the box begins at 0, and ready to be compared. */
        void layFromZero(Cell cell) {
            lay(cell, ALL_LAYERS);
            mark = 0;
            isSorted = false;
            for (int i = 0; i < count; i++) {
                xs[i] -= cell.box.x0;
                ys[i] -= cell.box.y0;
                order[i] = i;
                shapes[i].settleOrder(turns[i]);
                mark += markOf(i);
            }
        }

        /** Mixed so that the sums of unlike rows of shapes are hardly ever the same. */
        private long markOf(int i) {
            int k = shapes[i].orderedIndex(turns[i], 0);
            long mixed = cornerX(i, k) * 0x9E3779B97F4A7C15L + cornerY(i, k) * 0xC2B2AE3D27D4EB4FL;
            mixed ^= mixed >>> 32;
            return mixed * mixed;
        }

        boolean hasSameShapes(Flat other) {
            // Unequal marks spare the sorting; equal ones prove nothing.
            if (count != other.count || mark != other.mark) {
                return false;
            }
            sort();
            other.sort();
            for (int i = 0; i < count; i++) {
                if (compare(order[i], other, other.order[i]) != 0) {
                    return false;
                }
            }
            return true;
        }

        private void sort() {
            if (isSorted) {
                return;
            }
            for (int run = 1; run < count; run *= 2) {
                for (int from = 0; from < count; from += 2 * run) {
                    merge(from, Math.min(from + run, count), Math.min(from + 2 * run, count));
                }
                System.arraycopy(spare, 0, order, 0, count);
            }
            isSorted = true;
        }

        private void merge(int from, int middle, int to) {
            int left = from;
            int right = middle;
            for (int i = from; i < to; i++) {
                boolean isLeft = left < middle
                        && (right >= to || compare(order[left], this, order[right]) <= 0);
                spare[i] = isLeft ? order[left] : order[right];
                if (isLeft) {
                    left++;
                } else {
                    right++;
                }
            }
        }

        private int compare(int i, Flat other, int j) {
            Shape one = shapes[i];
            Shape two = other.shapes[j];
            if (one == two && turns[i] == other.turns[j]) {
                return xs[i] != other.xs[j] ? Long.compare(xs[i], other.xs[j]) : Long.compare(ys[i], other.ys[j]);
            }
            int sign = one.compareKind(two);
            for (int k = 0; k < one.count && sign == 0; k++) {
                int a = one.orderedIndex(turns[i], k);
                int b = two.orderedIndex(other.turns[j], k);
                sign = Long.compare(cornerX(i, a), other.cornerX(j, b));
                if (sign == 0) {
                    sign = Long.compare(cornerY(i, a), other.cornerY(j, b));
                }
            }
            return sign;
        }
    }
}
