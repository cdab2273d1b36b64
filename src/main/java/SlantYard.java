import java.util.Arrays;

/** A yard of stacked, coloured blocks that is seen aslant; what each call does stands in the document. */
public final class SlantYard {
    public static final int NONE = -1;

    private static final int FEWEST_COLUMNS = 2;
    private static final int FIRST_COLUMNS = 4;
    private static final int MOST_COLUMNS = 6;
    private static final int SQUARES = MOST_COLUMNS * MOST_COLUMNS;
    private static final int MOST_BLOCKS = 8;
    private static final int COLOURS = 4;
    private static final int HOURS = 8;
    private static final int MOST_SAVED = 6;
    private static final int MOST_CODES = 60;
    private static final int FIRST_CODE = 33;
    private static final int LAST_CODE = 126;

    private static final int PICTURE_FROM = -9;
    private static final int PICTURE_TO = 6;
    private static final int PICTURE_SIDE = PICTURE_TO - PICTURE_FROM + 1;
    private static final int TRIANGLES = PICTURE_SIDE * PICTURE_SIDE * 2;
    private static final int FACES_OF_BLOCK = 3;
    private static final int TRIANGLES_OF_BLOCK = 6;
    private static final int FACES = SQUARES * MOST_BLOCKS * FACES_OF_BLOCK;

    /** The six triangles of a block, two for each face in their order: the square seen from p, q, and which half. */
    private static final int[] TRIANGLE_I = {-1, -1, 0, 0, -1, 0};
    private static final int[] TRIANGLE_J = {-1, -1, -1, 0, 0, 0};
    private static final int[] TRIANGLE_HALF = {0, 1, 1, 0, 0, 1};

    /** By the hours: one step towards the sun, and how steep it is. */
    private static final int[] SUN_X = {1, 1, 0, -1, -1, -1, 0, 1};
    private static final int[] SUN_Y = {0, 1, 1, 1, 0, -1, -1, -1};
    private static final int[] SUN_STEEP = {1, 2, 3, 3, 2, 1, 1, 1};

    /** What may come next in a yard as a text; a text is complete after COLOURS_OR_END and END. */
    private static final int WRONG = -1;
    private static final int COLUMN = 0;
    private static final int ROW = 1;
    private static final int SIGN = 2;
    private static final int COLOUR = 3;
    private static final int COLOURS_OR_END = 4;
    private static final int HOW_MANY = 5;
    private static final int END = 6;

    /** Two to the 52nd: how finely a double's last places tell a number from 1 to 2. */
    private static final long FRACTION_STEPS = 4503599627370496L;
    private static final int FRACTION_BITS = 52;
    private static final long EXPONENT_OF_ONE = 1023L;

    private final Yard yard;
    private final View view;
    private final History history;
    private final Buffer buffer;

    /** Rows for yards that are only thought of, made once so that no call has to make any. */
    private final Yard trial;
    private final Yard spare;
    private final View trialView;

    private boolean drawn;

    public SlantYard() {
        yard = new Yard();
        view = new View();
        history = new History();
        buffer = new Buffer();
        trial = new Yard();
        spare = new Yard();
        trialView = new View();
        drawn = false;
    }

    // ---- blocks

    public int begin(int size) throws IllegalArgumentException {
        needRange(size, FEWEST_COLUMNS, MOST_COLUMNS);
        saveState();
        yard.empty(size);
        return size * size;
    }

    public int put(int x, int y, int colour)
            throws IndexOutOfBoundsException, IllegalArgumentException, IllegalStateException {
        needSquare(x, y);
        needRange(colour, 0, COLOURS - 1);
        if (yard.heightAt(x, y) >= MOST_BLOCKS) {
            throw new IllegalStateException("the stack is full");
        }
        saveState();
        yard.addBlock(x, y, colour);
        return yard.heightAt(x, y);
    }

    public int take(int x, int y) throws IndexOutOfBoundsException, IllegalStateException {
        needSquare(x, y);
        needBlocks(x, y);
        saveState();
        int colour = yard.topColour(x, y);
        yard.removeBlock(x, y);
        return colour;
    }

    public int carry(int x, int y, int goalX, int goalY) throws IndexOutOfBoundsException, IllegalStateException {
        needSquare(x, y);
        needSquare(goalX, goalY);
        if (x == goalX && y == goalY) {
            throw new IllegalStateException("both stacks are the same");
        }
        if (yard.heightAt(x, y) + yard.heightAt(goalX, goalY) > MOST_BLOCKS) {
            throw new IllegalStateException("the stack would be too high");
        }
        saveState();
        int carried = yard.heightAt(x, y);
        for (int z = 0; z < carried; z++) {
            yard.addBlock(goalX, goalY, yard.colourAt(x, y, z));
        }
        yard.lowerTo(x, y, 0);
        return yard.heightAt(goalX, goalY);
    }

    public int paint(int x, int y, int colour)
            throws IndexOutOfBoundsException, IllegalArgumentException, IllegalStateException {
        needSquare(x, y);
        needRange(colour, 0, COLOURS - 1);
        needBlocks(x, y);
        saveState();
        int before = yard.topColour(x, y);
        yard.removeBlock(x, y);
        yard.addBlock(x, y, colour);
        return before;
    }

    public int turn() {
        saveState();
        spare.becomeTurned(yard);
        yard.become(spare);
        return drawnView().blocks;
    }

    public int cutOff(int z) throws IllegalArgumentException {
        needRange(z, 0, MOST_BLOCKS);
        saveState();
        int before = yard.blockCount();
        for (int y = 0; y < yard.size; y++) {
            for (int x = 0; x < yard.size; x++) {
                yard.lowerTo(x, y, z);
            }
        }
        return before - yard.blockCount();
    }

    public int hour(int hour) throws IllegalArgumentException {
        needRange(hour, 0, HOURS - 1);
        saveState();
        int before = yard.hour;
        yard.hour = hour;
        return before;
    }

    // ---- texts

    public int append(int code) throws IllegalArgumentException, IllegalStateException {
        needRange(code, FIRST_CODE, LAST_CODE);
        if (buffer.length >= MOST_CODES) {
            throw new IllegalStateException("the buffer is full");
        }
        buffer.addCode(code);
        return buffer.length;
    }

    public int clearBuffer() {
        int before = buffer.length;
        buffer.length = 0;
        return before;
    }

    public int firstError() {
        return buffer.errorIndex();
    }

    public int build() throws IllegalArgumentException {
        if (!buffer.isComplete()) {
            throw new IllegalArgumentException("the buffer is not a complete yard");
        }
        saveState();
        int done = doOrders();
        buffer.length = 0;
        return done;
    }

    public int undo() throws IllegalStateException {
        if (history.length == 0) {
            throw new IllegalStateException("no state is saved");
        }
        history.restore(yard);
        drawn = false;
        return history.length;
    }

    // ---- looks; nothing is changed

    public int stack(int x, int y, int what) throws IndexOutOfBoundsException, IllegalArgumentException {
        needSquare(x, y);
        needRange(what, 0, 3);
        switch (what) {
            case 0:
                return yard.heightAt(x, y);
            case 1:
                return yard.topColour(x, y);
            case 2:
                return yard.inShadow(x, y, yard.hour) ? 1 : 0;
            default:
                return drawnView().blocksSeenIn(x, y, yard.heightAt(x, y));
        }
    }

    public int block(int x, int y, int z, int what) throws IndexOutOfBoundsException, IllegalArgumentException {
        needSquare(x, y);
        needRange(z, 0, MOST_BLOCKS - 1);
        needRange(what, 0, 4);
        if (z >= yard.heightAt(x, y)) {
            return NONE;
        }
        if (what == 0) {
            return yard.colourAt(x, y, z);
        }
        int block = blockNumber(x, y, z);
        if (what == 4) {
            return drawnView().trianglesOfBlock(block) > 0 ? 1 : 0;
        }
        return drawnView().trianglesOfFace(faceNumber(block, what - 1));
    }

    public int picture(int i, int j, int triangle, int what) throws IllegalArgumentException {
        needRange(i, PICTURE_FROM, PICTURE_TO);
        needRange(j, PICTURE_FROM, PICTURE_TO);
        needRange(triangle, 0, 1);
        needRange(what, 0, 4);
        int face = drawnView().faceIn(triangleNumber(i, j, triangle));
        if (face == NONE) {
            return NONE;
        }
        int block = face / FACES_OF_BLOCK;
        switch (what) {
            case 0:
                return columnOf(block);
            case 1:
                return rowOf(block);
            case 2:
                return heightOf(block);
            case 3:
                return face % FACES_OF_BLOCK;
            default:
                return yard.colourAt(columnOf(block), rowOf(block), heightOf(block));
        }
    }

    public int elevation(int side, int at, int what) throws IndexOutOfBoundsException, IllegalArgumentException {
        needLine(at);
        needRange(side, 0, 1);
        needRange(what, 0, 2);
        switch (what) {
            case 0:
                return yard.greatestIn(side, at);
            case 1:
                return yard.stacksWith(side, at, yard.greatestIn(side, at));
            default:
                return yard.blocksIn(side, at);
        }
    }

    public int cut(int z, int y) throws IndexOutOfBoundsException, IllegalArgumentException {
        needLine(y);
        needRange(z, 0, MOST_BLOCKS - 1);
        int mask = 0;
        for (int x = 0; x < yard.size; x++) {
            if (yard.heightAt(x, y) > z) {
                mask |= 1 << x;
            }
        }
        return mask;
    }

    public int count(int what) throws IllegalArgumentException {
        needRange(what, 0, 12);
        switch (what) {
            case 0:
                return yard.size;
            case 1:
                return yard.blockCount();
            case 2:
                return drawnView().blocks;
            case 3:
                return drawnView().faces;
            case 4:
                return drawnView().triangles;
            case 9:
                return yard.shadowCount(yard.hour);
            case 10:
                return yard.greatestHeight();
            case 11:
                return yard.hour;
            case 12:
                return history.length;
            default:
                return drawnView().trianglesOfColour(yard, what - 5);
        }
    }

    // ---- what would be; nothing is changed

    public int ifPut(int x, int y, int what) throws IndexOutOfBoundsException, IllegalArgumentException {
        needSquare(x, y);
        needRange(what, 0, 2);
        int z = yard.heightAt(x, y);
        if (z >= MOST_BLOCKS) {
            return NONE;
        }
        switch (what) {
            case 0:
                return drawnView().seenMoreWith(x, y, z) + 100;
            case 1:
                return drawnView().trianglesTakenBy(x, y, z, true);
            default:
                trial.become(yard);
                trial.addBlock(x, y, 0);
                return trial.shadowCount(yard.hour) - yard.shadowCount(yard.hour) + 100;
        }
    }

    public int ifHour(int hour) throws IllegalArgumentException {
        needRange(hour, 0, HOURS - 1);
        return yard.shadowCount(hour);
    }

    public int brightest() {
        int best = 0;
        int fewest = yard.shadowCount(0);
        for (int hour = 1; hour < HOURS; hour++) {
            int shadows = yard.shadowCount(hour);
            if (shadows < fewest) {
                fewest = shadows;
                best = hour;
            }
        }
        return best;
    }

    public int same(int what) throws IllegalArgumentException {
        needRange(what, 0, 1);
        return what == 0 ? yard.fewestAlike() : yard.mostAlike();
    }

    public int bestTurn() {
        int best = 0;
        int most = drawnView().blocks;
        trial.become(yard);
        for (int quarters = 1; quarters < 4; quarters++) {
            spare.becomeTurned(trial);
            trial.become(spare);
            trialView.draw(trial);
            if (trialView.blocks > most) {
                most = trialView.blocks;
                best = quarters;
            }
        }
        return best;
    }

    public double seenShare() {
        int all = yard.blockCount();
        if (all == 0) {
            return 1.0;
        }
        return (double) drawnView().blocks / (double) all;
    }

    public long digest() {
        long hash = 2789L;
        for (int what = 0; what <= 12; what++) {
            hash = mix(hash, count(what));
        }
        for (int y = 0; y < yard.size; y++) {
            for (int x = 0; x < yard.size; x++) {
                hash = mixSquare(hash, x, y);
            }
        }
        hash = mixPicture(hash);
        hash = mixElevations(hash);
        for (int z = 0; z <= 1; z++) {
            for (int y = 0; y < yard.size; y++) {
                hash = mix(hash, cut(z, y));
            }
        }
        for (int hour = 0; hour < HOURS; hour++) {
            hash = mix(hash, ifHour(hour));
        }
        hash = mix(hash, brightest());
        hash = mix(hash, same(0));
        hash = mix(hash, same(1));
        hash = mix(hash, bestTurn());
        hash = mix(hash, bitsOf(seenShare()));
        hash = mix(hash, buffer.length);
        for (int index = 0; index < buffer.length; index++) {
            hash = mix(hash, buffer.codeAt(index));
        }
        return hash;
    }

    // ---- what a call needs

    private static void needRange(int value, int least, int most) throws IllegalArgumentException {
        if (value < least || value > most) {
            throw new IllegalArgumentException("out of range");
        }
    }

    private void needSquare(int x, int y) throws IndexOutOfBoundsException {
        if (!yard.hasSquare(x, y)) {
            throw new IndexOutOfBoundsException("no such square");
        }
    }

    private void needLine(int at) throws IndexOutOfBoundsException {
        if (at < 0 || at >= yard.size) {
            throw new IndexOutOfBoundsException("no such row or column");
        }
    }

    private void needBlocks(int x, int y) throws IllegalStateException {
        if (yard.heightAt(x, y) == 0) {
            throw new IllegalStateException("the stack is empty");
        }
    }

    // ---- the state and its view

    /** Stands before every change, so the view is out of date from here on. */
    private void saveState() {
        history.save(yard);
        drawn = false;
    }

    private View drawnView() {
        if (!drawn) {
            view.draw(yard);
            drawn = true;
        }
        return view;
    }

    // ---- orders

    private int doOrders() {
        int done = 0;
        int start = 0;
        for (int orders = 0; orders < MOST_CODES && start < buffer.length; orders++) {
            int end = buffer.orderEnd(start);
            if (!doOrder(start, end)) {
                return done;
            }
            done++;
            start = end + 1;
        }
        return done;
    }

    private boolean doOrder(int start, int end) {
        int x = buffer.digitAt(start);
        int y = buffer.digitAt(start + 1);
        if (!yard.hasSquare(x, y)) {
            return false;
        }
        if (buffer.codeAt(start + 2) == '+') {
            return putAll(x, y, start + 3, end);
        }
        return takeAll(x, y, buffer.digitAt(start + 3));
    }

    private boolean putAll(int x, int y, int from, int end) {
        if (yard.heightAt(x, y) + end - from > MOST_BLOCKS) {
            return false;
        }
        for (int index = from; index < end; index++) {
            yard.addBlock(x, y, buffer.digitAt(index));
        }
        return true;
    }

    private boolean takeAll(int x, int y, int blocks) {
        int height = yard.heightAt(x, y);
        if (height < blocks) {
            return false;
        }
        yard.lowerTo(x, y, height - blocks);
        return true;
    }

    // ---- the parts of the digest

    private static long mix(long hash, long value) {
        return 31L * hash + value;
    }

    private long mixSquare(long before, int x, int y) {
        long hash = before;
        for (int what = 0; what <= 3; what++) {
            hash = mix(hash, stack(x, y, what));
        }
        int height = yard.heightAt(x, y);
        for (int z = 0; z < height; z++) {
            for (int what = 0; what <= 4; what++) {
                hash = mix(hash, block(x, y, z, what));
            }
        }
        for (int what = 0; what <= 2; what++) {
            hash = mix(hash, ifPut(x, y, what));
        }
        return hash;
    }

    private long mixPicture(long before) {
        long hash = before;
        for (int i = PICTURE_FROM; i <= PICTURE_TO; i++) {
            for (int j = PICTURE_FROM; j <= PICTURE_TO; j++) {
                for (int triangle = 0; triangle <= 1; triangle++) {
                    hash = mix(hash, picture(i, j, triangle, 0));
                    hash = mix(hash, picture(i, j, triangle, 3));
                }
            }
        }
        return hash;
    }

    private long mixElevations(long before) {
        long hash = before;
        for (int side = 0; side <= 1; side++) {
            for (int at = 0; at < yard.size; at++) {
                for (int what = 0; what <= 2; what++) {
                    hash = mix(hash, elevation(side, at, what));
                }
            }
        }
        return hash;
    }

    /** The bits of a double from 0 to 1, reckoned here because the library's function for them is not to be used. */
    private static long bitsOf(double share) {
        if (share <= 0.0) {
            return 0L;
        }
        double rest = share;
        long exponent = EXPONENT_OF_ONE;
        for (int halvings = 0; halvings < EXPONENT_OF_ONE && rest < 1.0; halvings++) {
            rest = rest * 2.0;
            exponent--;
        }
        return (exponent << FRACTION_BITS) + (long) ((rest - 1.0) * (double) FRACTION_STEPS);
    }

    // ---- rows and numbers

    private static int valueAt(int[] row, int index) {
        return index >= 0 && index < row.length ? row[index] : 0;
    }

    private static void setAt(int[] row, int index, int value) {
        if (index >= 0 && index < row.length) {
            row[index] = value;
        }
    }

    private static int blockNumber(int x, int y, int z) {
        return z * SQUARES + y * MOST_COLUMNS + x;
    }

    private static int columnOf(int block) {
        return block % MOST_COLUMNS;
    }

    private static int rowOf(int block) {
        return block / MOST_COLUMNS % MOST_COLUMNS;
    }

    private static int heightOf(int block) {
        return block / SQUARES;
    }

    private static int faceNumber(int block, int face) {
        return block * FACES_OF_BLOCK + face;
    }

    private static int triangleNumber(int i, int j, int half) {
        return ((i - PICTURE_FROM) * PICTURE_SIDE + j - PICTURE_FROM) * 2 + half;
    }

    /** The number of one of the six triangles that the block covers; two by two they belong to its faces. */
    private static int triangleOfBlock(int x, int y, int z, int which) {
        int i = x - z + valueAt(TRIANGLE_I, which);
        int j = y - z + valueAt(TRIANGLE_J, which);
        return triangleNumber(i, j, valueAt(TRIANGLE_HALF, which));
    }

    /** The stacks and the hour: all that undo brings back. */
    private static final class Yard {
        /** A square's place in the rows does not depend on the size, so a row fits every yard. */
        private final int[] heights;
        /** Two bits for each block, those of the lowest one lowest; none above the stack's height is set. */
        private final int[] colours;
        private int size;
        private int hour;

        Yard() {
            heights = new int[SQUARES];
            colours = new int[SQUARES];
            size = FIRST_COLUMNS;
            hour = 0;
        }

        void empty(int columns) {
            size = columns;
            Arrays.fill(heights, 0);
            Arrays.fill(colours, 0);
        }

        void become(Yard other) {
            size = other.size;
            hour = other.hour;
            for (int square = 0; square < SQUARES; square++) {
                setAt(heights, square, valueAt(other.heights, square));
                setAt(colours, square, valueAt(other.colours, square));
            }
        }

        void becomeTurned(Yard other) {
            empty(other.size);
            hour = other.hour;
            for (int y = 0; y < size; y++) {
                for (int x = 0; x < size; x++) {
                    int from = other.squareAt(x, y);
                    int goal = squareAt(size - 1 - y, x);
                    setAt(heights, goal, valueAt(other.heights, from));
                    setAt(colours, goal, valueAt(other.colours, from));
                }
            }
        }

        boolean hasSquare(int x, int y) {
            return squareAt(x, y) != NONE;
        }

        /** The square's place in the rows, NONE if there is no such square. */
        int squareAt(int x, int y) {
            return x >= 0 && x < size && y >= 0 && y < size ? y * MOST_COLUMNS + x : NONE;
        }

        /** The stack's height; 0 beyond the yard. */
        int heightAt(int x, int y) {
            return valueAt(heights, squareAt(x, y));
        }

        int colourAt(int x, int y, int z) {
            if (z < 0 || z >= heightAt(x, y)) {
                return NONE;
            }
            return (valueAt(colours, squareAt(x, y)) >> (2 * z)) & (COLOURS - 1);
        }

        int topColour(int x, int y) {
            return colourAt(x, y, heightAt(x, y) - 1);
        }

        void addBlock(int x, int y, int colour) {
            int square = squareAt(x, y);
            int height = valueAt(heights, square);
            if (height < MOST_BLOCKS) {
                setAt(colours, square, valueAt(colours, square) | (colour << (2 * height)));
                setAt(heights, square, height + 1);
            }
        }

        void removeBlock(int x, int y) {
            lowerTo(x, y, heightAt(x, y) - 1);
        }

        void lowerTo(int x, int y, int height) {
            int square = squareAt(x, y);
            if (height >= 0 && height < valueAt(heights, square)) {
                setAt(heights, square, height);
                setAt(colours, square, valueAt(colours, square) & ((1 << (2 * height)) - 1));
            }
        }

        int blockCount() {
            int blocks = 0;
            for (int y = 0; y < size; y++) {
                blocks += blocksIn(0, y);
            }
            return blocks;
        }

        int greatestHeight() {
            int greatest = 0;
            for (int y = 0; y < size; y++) {
                greatest = Math.max(greatest, greatestIn(0, y));
            }
            return greatest;
        }

        boolean inShadow(int x, int y, int atHour) {
            int stepX = valueAt(SUN_X, atHour);
            int stepY = valueAt(SUN_Y, atHour);
            int steep = valueAt(SUN_STEEP, atHour);
            int height = heightAt(x, y);
            for (int k = 1; k < size; k++) {
                int sunX = x + k * stepX;
                int sunY = y + k * stepY;
                if (hasSquare(sunX, sunY) && heightAt(sunX, sunY) - height >= k * steep) {
                    return true;
                }
            }
            return false;
        }

        int shadowCount(int atHour) {
            int shadows = 0;
            for (int y = 0; y < size; y++) {
                for (int x = 0; x < size; x++) {
                    if (inShadow(x, y, atHour)) {
                        shadows++;
                    }
                }
            }
            return shadows;
        }

        /** Of the row (side 0) or column (side 1) the k-th stack's height. */
        int heightAlong(int side, int at, int k) {
            return side == 0 ? heightAt(k, at) : heightAt(at, k);
        }

        int greatestIn(int side, int at) {
            int greatest = 0;
            for (int k = 0; k < size; k++) {
                greatest = Math.max(greatest, heightAlong(side, at, k));
            }
            return greatest;
        }

        int stacksWith(int side, int at, int height) {
            int stacks = 0;
            for (int k = 0; k < size; k++) {
                if (heightAlong(side, at, k) == height) {
                    stacks++;
                }
            }
            return stacks;
        }

        int blocksIn(int side, int at) {
            int blocks = 0;
            for (int k = 0; k < size; k++) {
                blocks += heightAlong(side, at, k);
            }
            return blocks;
        }

        /**
         * Each row and each column needs a stack of just its greatest height, and one stack can serve one row and one
         * column; what is left over on one side fits into a line of the other side that is at least as high.
         */
        int fewestAlike() {
            int blocks = 0;
            for (int height = 1; height <= MOST_BLOCKS; height++) {
                blocks += height * Math.max(linesWith(0, height), linesWith(1, height));
            }
            return blocks;
        }

        int linesWith(int side, int height) {
            int lines = 0;
            for (int at = 0; at < size; at++) {
                if (greatestIn(side, at) == height) {
                    lines++;
                }
            }
            return lines;
        }

        int mostAlike() {
            int blocks = 0;
            for (int y = 0; y < size; y++) {
                int inRow = greatestIn(0, y);
                for (int x = 0; x < size; x++) {
                    blocks += Math.min(inRow, greatestIn(1, x));
                }
            }
            return blocks;
        }
    }

    /** The picture of a yard: which face each triangle shows. */
    private static final class View {
        /** For each triangle the number of the face that is seen, NONE if none is. */
        private final int[] shown;
        /** For each triangle x + y + z of the block that is seen, NONE if none is. */
        private final int[] nearness;
        /** By how many triangles each face is seen. */
        private final int[] ofFace;
        private int blocks;
        private int faces;
        private int triangles;

        View() {
            shown = new int[TRIANGLES];
            nearness = new int[TRIANGLES];
            ofFace = new int[FACES];
            blocks = 0;
            faces = 0;
            triangles = 0;
        }

        void draw(Yard yard) {
            Arrays.fill(shown, NONE);
            Arrays.fill(nearness, NONE);
            for (int y = 0; y < yard.size; y++) {
                for (int x = 0; x < yard.size; x++) {
                    int height = yard.heightAt(x, y);
                    for (int z = 0; z < height; z++) {
                        drawBlock(x, y, z);
                    }
                }
            }
            countTriangles();
        }

        void drawBlock(int x, int y, int z) {
            for (int which = 0; which < TRIANGLES_OF_BLOCK; which++) {
                int triangle = triangleOfBlock(x, y, z, which);
                if (takes(x, y, z, triangle)) {
                    setAt(nearness, triangle, x + y + z);
                    setAt(shown, triangle, faceNumber(blockNumber(x, y, z), which / 2));
                }
            }
        }

        boolean takes(int x, int y, int z, int triangle) {
            return x + y + z > valueAt(nearness, triangle);
        }

        void countTriangles() {
            Arrays.fill(ofFace, 0);
            blocks = 0;
            faces = 0;
            triangles = 0;
            for (int triangle = 0; triangle < TRIANGLES; triangle++) {
                int face = faceIn(triangle);
                if (face != NONE) {
                    blocks += trianglesOfBlock(face / FACES_OF_BLOCK) == 0 ? 1 : 0;
                    faces += trianglesOfFace(face) == 0 ? 1 : 0;
                    triangles++;
                    changeBy(ofFace, face, 1);
                }
            }
        }

        int faceIn(int triangle) {
            return valueAt(shown, triangle);
        }

        int trianglesOfFace(int face) {
            return valueAt(ofFace, face);
        }

        int trianglesOfBlock(int block) {
            int seen = 0;
            for (int face = 0; face < FACES_OF_BLOCK; face++) {
                seen += valueAt(ofFace, faceNumber(block, face));
            }
            return seen;
        }

        int blocksSeenIn(int x, int y, int height) {
            int seen = 0;
            for (int z = 0; z < height; z++) {
                if (trianglesOfBlock(blockNumber(x, y, z)) > 0) {
                    seen++;
                }
            }
            return seen;
        }

        /** Looks the colours up in the yard that was drawn. */
        int trianglesOfColour(Yard yard, int colour) {
            int found = 0;
            for (int triangle = 0; triangle < TRIANGLES; triangle++) {
                int block = faceIn(triangle) / FACES_OF_BLOCK;
                if (faceIn(triangle) != NONE
                        && yard.colourAt(columnOf(block), rowOf(block), heightOf(block)) == colour) {
                    found++;
                }
            }
            return found;
        }

        /** How many triangles another block would take; of those that show a face now, or of all. */
        int trianglesTakenBy(int x, int y, int z, boolean onlyShown) {
            int taken = 0;
            for (int which = 0; which < TRIANGLES_OF_BLOCK; which++) {
                int triangle = triangleOfBlock(x, y, z, which);
                if (takes(x, y, z, triangle) && (!onlyShown || faceIn(triangle) != NONE)) {
                    taken++;
                }
            }
            return taken;
        }

        /** By how many more blocks would be seen with another one; less than 0 if it hides more than itself. */
        int seenMoreWith(int x, int y, int z) {
            int more = trianglesTakenBy(x, y, z, false) > 0 ? 1 : 0;
            for (int which = 0; which < TRIANGLES_OF_BLOCK; which++) {
                int face = faceLost(x, y, z, which);
                changeBy(ofFace, face, -1);
                if (face != NONE && trianglesOfBlock(face / FACES_OF_BLOCK) == 0) {
                    more--;
                }
            }
            giveBack(x, y, z);
            return more;
        }

        void giveBack(int x, int y, int z) {
            for (int which = 0; which < TRIANGLES_OF_BLOCK; which++) {
                changeBy(ofFace, faceLost(x, y, z, which), 1);
            }
        }

        /** The face that loses this triangle to another block, NONE if no face does. */
        int faceLost(int x, int y, int z, int which) {
            int triangle = triangleOfBlock(x, y, z, which);
            return takes(x, y, z, triangle) ? faceIn(triangle) : NONE;
        }

        /** No number of the row, such as NONE, changes nothing. */
        private static void changeBy(int[] row, int index, int change) {
            setAt(row, index, valueAt(row, index) + change);
        }
    }

    /** The saved states; a ring of yards that are made once, so that saving makes none. */
    private static final class History {
        private final Yard[] saved;
        private int first;
        private int length;

        History() {
            saved = new Yard[MOST_SAVED];
            for (int slot = 0; slot < saved.length; slot++) {
                saved[slot] = new Yard();
            }
            first = 0;
            length = 0;
        }

        void save(Yard yard) {
            if (length == MOST_SAVED) {
                first = (first + 1) % MOST_SAVED;
                length--;
            }
            Yard slot = slotAt(length);
            if (slot != null) {
                slot.become(yard);
            }
            length++;
        }

        void restore(Yard yard) {
            if (length == 0) {
                return;
            }
            length--;
            Yard slot = slotAt(length);
            if (slot != null) {
                yard.become(slot);
            }
        }

        Yard slotAt(int index) {
            int slot = (first + index) % MOST_SAVED;
            return slot >= 0 && slot < saved.length ? saved[slot] : null;
        }
    }

    /** The characters of a yard as a text. */
    private static final class Buffer {
        private final int[] codes;
        private int length;

        Buffer() {
            codes = new int[MOST_CODES];
            length = 0;
        }

        void addCode(int code) {
            if (length < MOST_CODES) {
                setAt(codes, length, code);
                length++;
            }
        }

        int codeAt(int index) {
            return valueAt(codes, index);
        }

        int digitAt(int index) {
            return codeAt(index) - '0';
        }

        int errorIndex() {
            int state = COLUMN;
            for (int index = 0; index < length; index++) {
                state = stateAfter(state, codeAt(index));
                if (state == WRONG) {
                    return index;
                }
            }
            return length;
        }

        boolean isComplete() {
            int state = COLUMN;
            for (int index = 0; index < length; index++) {
                state = stateAfter(state, codeAt(index));
            }
            return state == COLOURS_OR_END || state == END;
        }

        /** The index of the ";" behind the order, or of the text's end. */
        int orderEnd(int start) {
            for (int index = start; index < length; index++) {
                if (codeAt(index) == ';') {
                    return index;
                }
            }
            return length;
        }

        private static int stateAfter(int state, int code) {
            switch (state) {
                case COLUMN:
                    return isBetween(code, '0', '5') ? ROW : WRONG;
                case ROW:
                    return isBetween(code, '0', '5') ? SIGN : WRONG;
                case SIGN:
                    return code == '+' ? COLOUR : code == '-' ? HOW_MANY : WRONG;
                case COLOUR:
                    return isBetween(code, '0', '3') ? COLOURS_OR_END : WRONG;
                case COLOURS_OR_END:
                    return isBetween(code, '0', '3') ? COLOURS_OR_END : code == ';' ? COLUMN : WRONG;
                case HOW_MANY:
                    return isBetween(code, '1', '8') ? END : WRONG;
                case END:
                    return code == ';' ? COLUMN : WRONG;
                default:
                    return WRONG;
            }
        }

        private static boolean isBetween(int code, char first, char last) {
            return code >= first && code <= last;
        }
    }
}
