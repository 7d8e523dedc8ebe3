import java.util.Arrays;

/**
 * Moving pictures from bits: a tape of bytes is fed, and then read as a header or as a frame.
 * The words in capitals in these comments are the terms of the document, shared/DOC.md.
 *
 * <p>All rows are made in constructors and used again. What a header or a frame says is read into a
 * spare object first, which takes the place of the one in force only if there was no fault.
 */
public final class FilmBlocks {
    public static final int NONE = -1;

    private static final int MOST_BYTES = 6000;
    private static final int FED_BYTES = 16;
    private static final int SIDE = 8;
    private static final int PLACES = SIDE * SIDE;
    private static final int MOST_BLOCKS_ASIDE = 6;
    private static final int MOST_BLOCKS = MOST_BLOCKS_ASIDE * MOST_BLOCKS_ASIDE;
    private static final int MOST_SAMPLES = MOST_BLOCKS * PLACES;

    private static final int NO_FAULT = 0;
    private static final int END_FAULT = 1;
    private static final int SIZE_FAULT = 2;
    private static final int TREE_FAULT = 3;
    private static final int FIRST_FAULT = 4;
    private static final int RUN_FAULT = 5;
    private static final int PLACE_FAULT = 6;

    private static final int NOT_CODED = 0;
    private static final int PREVIOUS = 1;
    private static final int NEW = 2;
    private static final int MOVED = 3;
    private static final int GOLDEN = 4;

    private final Tape tape = new Tape();
    private final Painter painter = new Painter();
    private Header currentHeader = new Header();
    private Header spareHeader = new Header();
    private Frame latestFrame = new Frame();
    private Frame spareFrame = new Frame();
    private Picture previousPicture = new Picture();
    private Picture sparePicture = new Picture();
    private final Picture goldenPicture = new Picture();
    private boolean hasHeader;
    private boolean hasPicture;
    private int frameCount;

    public FilmBlocks() {
    }

    public int feed(int a, int b, int c, int d) throws IllegalStateException {
        if (tape.size() + FED_BYTES > MOST_BYTES) {
            throw new IllegalStateException("the tape would have more than 6000 bytes");
        }
        tape.add(a);
        tape.add(b);
        tape.add(c);
        tape.add(d);
        return tape.size();
    }

    public void end(int n) throws IllegalArgumentException {
        if (n < 0 || n > tape.size()) {
            throw new IllegalArgumentException("the tape has no such length");
        }
        tape.cut(n);
    }

    public int header() {
        tape.rewind();
        spareHeader.read(tape);
        tape.cut(0);
        if (tape.isSound()) {
            takeHeader();
        }
        return tape.fault();
    }

    public int frame() throws IllegalStateException {
        if (!hasHeader) {
            throw new IllegalStateException("there is no header");
        }
        tape.rewind();
        spareFrame.read(tape, currentHeader, hasPicture);
        tape.cut(0);
        if (tape.isSound()) {
            takeFrame();
        }
        return tape.fault();
    }

    public int head(int what) throws IllegalStateException, IllegalArgumentException {
        if (!hasHeader) {
            throw new IllegalStateException("there is no header");
        }
        switch (what) {
            case 0:
                return currentHeader.columns();
            case 1:
                return currentHeader.rows();
            case 2:
                return currentHeader.limit();
            case 3:
                return currentHeader.treeFor(0).tokenCount();
            case 4:
                return currentHeader.treeFor(1).tokenCount();
            default:
                throw new IllegalArgumentException("a header tells 0 to 4");
        }
    }

    public int frames() {
        return frameCount;
    }

    public int sample(int x, int y, boolean golden)
            throws IllegalStateException, IndexOutOfBoundsException {
        if (!hasPicture) {
            throw new IllegalStateException("there is no picture");
        }
        if (!previousPicture.has(x, y)) {
            throw new IndexOutOfBoundsException("the picture has no such place");
        }
        return golden ? goldenPicture.at(x, y) : previousPicture.at(x, y);
    }

    public int block(int column, int row, int what)
            throws IllegalStateException, IndexOutOfBoundsException, IllegalArgumentException {
        if (!hasPicture) {
            throw new IllegalStateException("there is no picture");
        }
        if (!latestFrame.has(column, row)) {
            throw new IndexOutOfBoundsException("the picture has no such block");
        }
        int block = latestFrame.index(column, row);
        switch (what) {
            case 0:
                return latestFrame.mode(block);
            case 1:
                return latestFrame.across(block);
            case 2:
                return latestFrame.down(block);
            case 3:
                return latestFrame.number(block, 0);
            default:
                throw new IllegalArgumentException("a block tells 0 to 3");
        }
    }

    public int taken() {
        return tape.position();
    }

    public int sum() {
        return hasPicture ? previousPicture.total() : 0;
    }

    private void takeHeader() {
        Header former = currentHeader;
        currentHeader = spareHeader;
        spareHeader = former;
        hasHeader = true;
        hasPicture = false;
        frameCount = 0;
    }

    private void takeFrame() {
        Frame formerFrame = latestFrame;
        latestFrame = spareFrame;
        spareFrame = formerFrame;
        painter.paint(latestFrame, currentHeader, previousPicture, goldenPicture, sparePicture);
        Picture formerPicture = previousPicture;
        previousPicture = sparePicture;
        sparePicture = formerPicture;
        if (latestFrame.makesGolden()) {
            goldenPicture.copyFrom(previousPicture);
        }
        hasPicture = true;
        frameCount++;
    }

    private static int bring(int value, int least, int most) {
        return Math.max(least, Math.min(most, value));
    }

    /**
     * THE TAPE, read bit by bit. It keeps the first fault; behind a fault every bit reads as 0 and
     * nothing more is taken, so that readers need not ask after each bit.
     */
    private static final class Tape {
        private final byte[] bytes = new byte[MOST_BYTES];
        private int size;
        private int position;
        private int fault;

        int size() {
            return size;
        }

        int position() {
            return position;
        }

        int fault() {
            return fault;
        }

        boolean isSound() {
            return fault == NO_FAULT;
        }

        void add(int number) {
            for (int shift = 24; shift >= 0 && size < MOST_BYTES; shift -= 8) {
                bytes[size] = (byte) (number >> shift);
                size++;
            }
        }

        void cut(int length) {
            size = length;
        }

        void rewind() {
            position = 0;
            fault = NO_FAULT;
        }

        void fail(int code) {
            if (fault == NO_FAULT) {
                fault = code;
            }
        }

        int bit() {
            if (position >= 8 * size) {
                fail(END_FAULT);
            }
            if (fault != NO_FAULT) {
                return 0;
            }
            int bit = bytes[position / 8] >> (7 - position % 8) & 1;
            position++;
            return bit;
        }

        int number(int bits) {
            int number = 0;
            for (int i = 0; i < bits; i++) {
                number = 2 * number + bit();
            }
            return number;
        }
    }

    /** A TREE. A branch is a node's number, or below 0 for a token: - 1 - the token. */
    private static final class Tree {
        private static final int DEEPEST = 12;
        private static final int MOST_TOKENS = 32;
        // While a tree is read, it never has more than 12 nodes above its tokens.
        private static final int MOST_NODES = MOST_TOKENS + DEEPEST;

        private final int[] branches = new int[2 * MOST_NODES];
        private int nodeCount;
        private int tokenCount;
        private int root;

        int tokenCount() {
            return tokenCount;
        }

        void read(Tape tape) {
            nodeCount = 0;
            tokenCount = 0;
            root = readBranch(this, tape, 0);
        }

        private static int readBranch(Tree tree, Tape tape, int depth) {
            if (tape.bit() == 1) {
                return tree.readLeaf(tape);
            }
            if (depth >= DEEPEST || tree.nodeCount >= MOST_NODES) {
                tape.fail(TREE_FAULT);
            }
            if (!tape.isSound()) {
                return 0;
            }
            int node = tree.nodeCount;
            tree.nodeCount++;
            tree.branches[2 * node] = readBranch(tree, tape, depth + 1);
            tree.branches[2 * node + 1] = readBranch(tree, tape, depth + 1);
            return node;
        }

        private int readLeaf(Tape tape) {
            if (tokenCount >= MOST_TOKENS) {
                tape.fail(TREE_FAULT);
            }
            tokenCount++;
            return -1 - tape.number(5);
        }

        int readToken(Tape tape) {
            int branch = root;
            for (int depth = 0; depth < DEEPEST && branch >= 0; depth++) {
                branch = branches[2 * branch + tape.bit()];
            }
            return -1 - branch;
        }
    }

    /** A HEADER, and the ORDER of the blocks, which follows from it. */
    private static final class Header {
        private static final int SCALES = 8;
        private static final int STEPS = 16;
        private static final int SQUARE = 4;
        private static final int[] COLUMNS_IN_SQUARE =
            {0, 1, 1, 0, 0, 0, 1, 1, 2, 2, 3, 3, 3, 2, 2, 3};
        private static final int[] ROWS_IN_SQUARE =
            {0, 0, 1, 1, 2, 3, 3, 2, 2, 3, 3, 2, 1, 1, 0, 0};

        private final int[] scales = new int[SCALES];
        private final int[] steps = new int[STEPS];
        private final Tree firstTree = new Tree();
        private final Tree furtherTree = new Tree();
        private final int[] order = new int[MOST_BLOCKS];
        private int columns;
        private int rows;
        private int limit;

        int columns() {
            return columns;
        }

        int rows() {
            return rows;
        }

        int limit() {
            return limit;
        }

        Tree treeFor(int place) {
            return place == 0 ? firstTree : furtherTree;
        }

        /** The raster index of the block that is number i in order. */
        int ordered(int i) {
            return order[i];
        }

        int factor(int scale, int place) {
            return bring(steps[place / 4] * scales[scale] / 100, 2, 4096);
        }

        void read(Tape tape) {
            columns = tape.number(3) + 1;
            rows = tape.number(3) + 1;
            if (columns > MOST_BLOCKS_ASIDE || rows > MOST_BLOCKS_ASIDE) {
                tape.fail(SIZE_FAULT);
            }
            limit = tape.number(5);
            for (int i = 0; i < SCALES; i++) {
                scales[i] = tape.number(10);
            }
            for (int i = 0; i < STEPS; i++) {
                steps[i] = tape.number(8);
            }
            firstTree.read(tape);
            furtherTree.read(tape);
            if (tape.isSound()) {
                putInOrder();
            }
        }

        private void putInOrder() {
            int count = 0;
            for (int top = 0; top < rows; top += SQUARE) {
                for (int left = 0; left < columns; left += SQUARE) {
                    count = putSquare(left, top, count);
                }
            }
        }

        private int putSquare(int left, int top, int before) {
            int count = before;
            for (int i = 0; i < SQUARE * SQUARE; i++) {
                int column = left + COLUMNS_IN_SQUARE[i];
                int row = top + ROWS_IN_SQUARE[i];
                if (column < columns && row < rows && count < MOST_BLOCKS) {
                    order[count] = row * columns + column;
                    count++;
                }
            }
            return count;
        }
    }

    /** A FRAME as the tape tells it: of each block, in raster, its mode, its move, its numbers. */
    private static final class Frame {
        // Where a block stands that has ended, or is not coded: at no place.
        private static final int NOWHERE = PLACES;
        private static final int LAST_ENDING_TOKEN = 4;
        private static final int FIRST_SIGNED_TOKEN = 11;
        private static final int LAST_SIGNED_TOKEN = 29;
        private static final int FIRST_NUMBER_AND_END_TOKEN = 30;
        // By token: how many more blocks are to end, and how many bits tell still more.
        private static final int[] ENDING = {0, 1, 2, 6, 14};
        private static final int[] ENDING_BITS = {0, 0, 2, 3, 8};
        // By token: the places passed over, and how many bits tell still more.
        private static final int[] PASSED = {
            0, 0, 0, 0, 0, 1, 9, 0, 0, 0, 0, 0, 0, 0, 0, 0,
            0, 0, 0, 0, 0, 1, 2, 3, 4, 5, 6, 10, 1, 2, 0, 0};
        private static final int[] PASSED_BITS = {
            0, 0, 0, 0, 0, 3, 6, 0, 0, 0, 0, 0, 0, 0, 0, 0,
            0, 0, 0, 0, 0, 0, 0, 0, 0, 0, 2, 3, 0, 1, 0, 0};
        // By token: its number, and how many bits tell still more; 0 if no number comes.
        private static final int[] NUMBER = {
            0, 0, 0, 0, 0, 0, 0, 1, -1, 2, -2, 3, 4, 5, 6, 7,
            9, 13, 21, 37, 101, 1, 1, 1, 1, 1, 1, 1, 2, 2, 1, -1};
        private static final int[] NUMBER_BITS = {
            0, 0, 0, 0, 0, 0, 0, 0, 0, 0, 0, 0, 0, 0, 0, 1,
            2, 3, 4, 6, 9, 0, 0, 0, 0, 0, 0, 0, 1, 1, 0, 0};

        private final int[] modes = new int[MOST_BLOCKS];
        private final int[] across = new int[MOST_BLOCKS];
        private final int[] down = new int[MOST_BLOCKS];
        private final int[][] numbers = new int[MOST_BLOCKS][PLACES];
        private final int[] places = new int[MOST_BLOCKS];
        // By mode: the latest number at place 0 of a block of that kind.
        private final int[] latestOfKind = new int[GOLDEN + 1];
        private int columns;
        private int rows;
        private int scale;
        private int toEnd;
        private boolean between;
        private boolean kept;

        boolean has(int column, int row) {
            return column >= 0 && column < columns && row >= 0 && row < rows;
        }

        int index(int column, int row) {
            return row * columns + column;
        }

        boolean isCoded(int block) {
            return modes[block] != NOT_CODED;
        }

        int mode(int block) {
            return modes[block];
        }

        int across(int block) {
            return across[block];
        }

        int down(int block) {
            return down[block];
        }

        int number(int block, int place) {
            return numbers[block][place];
        }

        int scale() {
            return scale;
        }

        int columns() {
            return columns;
        }

        int rows() {
            return rows;
        }

        boolean makesGolden() {
            return !between || kept;
        }

        void read(Tape tape, Header header, boolean hasPicture) {
            columns = header.columns();
            rows = header.rows();
            clear();
            between = tape.bit() == 1;
            if (between && !hasPicture) {
                tape.fail(FIRST_FAULT);
            }
            scale = tape.number(3);
            kept = tape.bit() == 1;
            if (between) {
                readFlags(tape, header);
                readModes(tape, header);
            }
            if (tape.isSound()) {
                readTokens(tape, header);
            }
            if (tape.isSound()) {
                addGuesses();
            }
        }

        private void clear() {
            for (int block = 0; block < columns * rows; block++) {
                modes[block] = NEW;
                across[block] = 0;
                down[block] = 0;
                Arrays.fill(numbers[block], 0);
            }
        }

        private void readFlags(Tape tape, Header header) {
            int blocks = columns * rows;
            int flag = 1 - tape.bit();
            int left = 0;
            for (int i = 0; i < blocks; i++) {
                if (left == 0) {
                    left = readRun(tape);
                    flag = 1 - flag;
                    if (left > blocks - i) {
                        tape.fail(RUN_FAULT);
                    }
                }
                left--;
                if (flag == 0) {
                    modes[header.ordered(i)] = NOT_CODED;
                }
            }
        }

        private static int readRun(Tape tape) {
            if (tape.bit() == 0) {
                return 1;
            }
            if (tape.bit() == 0) {
                return 2 + tape.number(1);
            }
            if (tape.bit() == 0) {
                return 4 + tape.number(2);
            }
            return 8 + tape.number(5);
        }

        private void readModes(Tape tape, Header header) {
            int latestAcross = 0;
            int latestDown = 0;
            for (int i = 0; i < columns * rows; i++) {
                int block = header.ordered(i);
                if (!isCoded(block)) {
                    continue;
                }
                if (tape.bit() == 0) {
                    modes[block] = PREVIOUS;
                } else if (tape.bit() == 0) {
                    modes[block] = NEW;
                } else if (tape.bit() == 0) {
                    latestAcross = readMove(tape);
                    latestDown = readMove(tape);
                    setMoved(block, latestAcross, latestDown);
                } else if (tape.bit() == 0) {
                    setMoved(block, latestAcross, latestDown);
                } else {
                    modes[block] = GOLDEN;
                }
            }
        }

        private static int readMove(Tape tape) {
            int size = tape.number(5);
            return tape.bit() == 1 ? -size : size;
        }

        private void setMoved(int block, int v, int w) {
            modes[block] = MOVED;
            across[block] = v;
            down[block] = w;
        }

        private void readTokens(Tape tape, Header header) {
            int blocks = columns * rows;
            for (int block = 0; block < blocks; block++) {
                places[block] = isCoded(block) ? 0 : NOWHERE;
            }
            toEnd = 0;
            for (int place = 0; place < PLACES && tape.isSound(); place++) {
                Tree tree = header.treeFor(place);
                for (int i = 0; i < blocks; i++) {
                    int block = header.ordered(i);
                    if (places[block] == place) {
                        goOn(tape, tree, block);
                    }
                }
            }
        }

        private void goOn(Tape tape, Tree tree, int block) {
            if (toEnd > 0) {
                toEnd--;
                places[block] = NOWHERE;
                return;
            }
            int token = tree.readToken(tape);
            if (token <= LAST_ENDING_TOKEN) {
                toEnd = ENDING[token] + tape.number(ENDING_BITS[token]);
                places[block] = NOWHERE;
            } else {
                readNumber(tape, token, block);
            }
        }

        private void readNumber(Tape tape, int token, int block) {
            boolean signed = token >= FIRST_SIGNED_TOKEN && token <= LAST_SIGNED_TOKEN;
            int sign = signed && tape.bit() == 1 ? -1 : 1;
            int number = sign * (NUMBER[token] + tape.number(NUMBER_BITS[token]));
            int place = places[block] + PASSED[token] + tape.number(PASSED_BITS[token]);
            if (number == 0) {
                goTo(tape, block, place);
            } else if (place >= PLACES) {
                tape.fail(PLACE_FAULT);
            } else {
                numbers[block][place] = number;
                goTo(tape, block, token >= FIRST_NUMBER_AND_END_TOKEN ? NOWHERE : place + 1);
            }
        }

        private void goTo(Tape tape, int block, int place) {
            if (place > PLACES) {
                tape.fail(PLACE_FAULT);
            }
            places[block] = place;
        }

        private void addGuesses() {
            for (int mode = 0; mode <= GOLDEN; mode++) {
                latestOfKind[mode] = 0;
            }
            for (int row = 0; row < rows; row++) {
                for (int column = 0; column < columns; column++) {
                    int block = index(column, row);
                    if (isCoded(block)) {
                        numbers[block][0] += guess(column, row);
                        latestOfKind[kind(block)] = numbers[block][0];
                    }
                }
            }
        }

        private int guess(int column, int row) {
            int block = index(column, row);
            int left = block - 1;
            int above = block - columns;
            boolean byLeft = column > 0 && kind(left) == kind(block);
            boolean byAbove = row > 0 && kind(above) == kind(block);
            if (byLeft && byAbove) {
                return (numbers[left][0] + numbers[above][0]) / 2;
            }
            if (byLeft) {
                return numbers[left][0];
            }
            return byAbove ? numbers[above][0] : latestOfKind[kind(block)];
        }

        private int kind(int block) {
            return modes[block] == MOVED ? PREVIOUS : modes[block];
        }
    }

    /** Samples in raster; a place outside is brought into the picture. */
    private static final class Picture {
        private final int[] samples = new int[MOST_SAMPLES];
        private int width;
        private int height;

        void setSize(int columns, int rows) {
            width = columns * SIDE;
            height = rows * SIDE;
        }

        boolean has(int x, int y) {
            return x >= 0 && x < width && y >= 0 && y < height;
        }

        int at(int x, int y) {
            return samples[bring(y, 0, height - 1) * width + bring(x, 0, width - 1)];
        }

        void put(int x, int y, int value) {
            samples[y * width + x] = bring(value, 0, 255);
        }

        void copyFrom(Picture other) {
            width = other.width;
            height = other.height;
            System.arraycopy(other.samples, 0, samples, 0, MOST_SAMPLES);
        }

        int total() {
            int total = 0;
            for (int i = 0; i < width * height; i++) {
                total = 31 * total + samples[i];
            }
            return total;
        }

        void smooth(Frame frame, int limit) {
            for (int row = 0; row < frame.rows(); row++) {
                for (int column = 0; column < frame.columns(); column++) {
                    if (frame.isCoded(frame.index(column, row))) {
                        smoothBlock(frame, column, row, limit);
                    }
                }
            }
        }

        private void smoothBlock(Frame frame, int column, int row, int limit) {
            int x = column * SIDE;
            int y = row * SIDE;
            if (column > 0) {
                smoothUpright(x, y, limit);
            }
            if (row > 0) {
                smoothLevel(x, y, limit);
            }
            if (isThereNotCoded(frame, column + 1, row)) {
                smoothUpright(x + SIDE, y, limit);
            }
            if (isThereNotCoded(frame, column, row + 1)) {
                smoothLevel(x, y + SIDE, limit);
            }
        }

        private static boolean isThereNotCoded(Frame frame, int column, int row) {
            return frame.has(column, row) && !frame.isCoded(frame.index(column, row));
        }

        /** Smooths the upright edge left of (x, y) and of the seven samples below it. */
        private void smoothUpright(int x, int y, int limit) {
            for (int i = 0; i < SIDE; i++) {
                smoothLine((y + i) * width + x, 1, limit);
            }
        }

        /** Smooths the level edge above (x, y) and the seven samples to its right. */
        private void smoothLevel(int x, int y, int limit) {
            for (int i = 0; i < SIDE; i++) {
                smoothLine(y * width + x + i, width, limit);
            }
        }

        private void smoothLine(int behind, int step, int limit) {
            int a = samples[behind - 2 * step];
            int b = samples[behind - step];
            int c = samples[behind];
            int d = samples[behind + step];
            int change = softened((a - 3 * b + 3 * c - d + 4) >> 3, limit);
            samples[behind - step] = bring(b + change, 0, 255);
            samples[behind] = bring(c - change, 0, 255);
        }

        private static int softened(int roughness, int limit) {
            int size = Math.abs(roughness);
            if (size < limit) {
                return roughness;
            }
            if (size < 2 * limit) {
                return roughness < 0 ? size - 2 * limit : 2 * limit - size;
            }
            return 0;
        }
    }

    /** Makes the next picture of a frame. */
    private static final class Painter {
        // C0 to C8 of the document's waves; 0 and 8 are never met, and stand there for the index.
        private static final int[] WAVES =
            {16384, 16069, 15137, 13623, 11585, 9102, 6270, 3196, 0};
        private static final int LEVEL_WAVE = 11585;

        // By place: where in the square it is, row by row.
        private final int[] spots = new int[PLACES];
        // t(x, u) at 8 x + u.
        private final int[] waves = new int[PLACES];
        private final int[] square = new int[PLACES];
        private final int[] halfway = new int[PLACES];
        private final long[] sums = new long[SIDE];

        Painter() {
            setSpots();
            setWaves();
        }

        private void setSpots() {
            int place = 0;
            for (int diagonal = 0; diagonal < 2 * SIDE - 1; diagonal++) {
                for (int i = 0; i <= diagonal; i++) {
                    int row = diagonal % 2 == 1 ? i : diagonal - i;
                    int column = diagonal - row;
                    if (row < SIDE && column < SIDE && place < PLACES) {
                        spots[place] = row * SIDE + column;
                        place++;
                    }
                }
            }
        }

        private void setWaves() {
            for (int x = 0; x < SIDE; x++) {
                for (int u = 0; u < SIDE; u++) {
                    waves[x * SIDE + u] = wave(x, u);
                }
            }
        }

        private static int wave(int x, int u) {
            if (u == 0) {
                return LEVEL_WAVE;
            }
            int m = (2 * x + 1) * u & 31;
            if (m <= 8) {
                return WAVES[m];
            }
            if (m <= 16) {
                return -WAVES[16 - m];
            }
            return m <= 24 ? -WAVES[m - 16] : WAVES[32 - m];
        }

        void paint(Frame frame, Header header, Picture previous, Picture golden, Picture next) {
            next.setSize(header.columns(), header.rows());
            for (int row = 0; row < header.rows(); row++) {
                for (int column = 0; column < header.columns(); column++) {
                    int block = frame.index(column, row);
                    Picture base = frame.mode(block) == GOLDEN ? golden : previous;
                    makeAdded(frame, header, block);
                    paintBlock(frame, column, row, base, next);
                }
            }
            if (header.limit() != 0) {
                next.smooth(frame, header.limit());
            }
        }

        private void paintBlock(Frame frame, int column, int row, Picture base, Picture next) {
            int block = frame.index(column, row);
            for (int i = 0; i < PLACES; i++) {
                int x = column * SIDE + i % SIDE;
                int y = row * SIDE + i / SIDE;
                int under = frame.mode(block) == NEW
                    ? 128
                    : moved(base, x, y, frame.across(block), frame.down(block));
                next.put(x, y, under + square[i]);
            }
        }

        /** Twice the same sample, halved, if it is not moved. */
        private static int moved(Picture base, int x, int y, int across, int down) {
            int near = base.at(x + (across >> 1), y + (down >> 1));
            int far = base.at(x + (across + 1 >> 1), y + (down + 1 >> 1));
            return (near + far) / 2;
        }

        /** Puts into the square what is added to a block: nothing, if it is not coded. */
        private void makeAdded(Frame frame, Header header, int block) {
            for (int place = 0; place < PLACES; place++) {
                int number = frame.number(block, place) * header.factor(frame.scale(), place);
                square[spots[place]] = bring(number, -32768, 32767);
            }
            sumWaves(square, halfway);
            sumWaves(halfway, square);
        }

        /** Sums the waves of each row, and lays it down as a column: done twice, it is all done. */
        private void sumWaves(int[] from, int[] to) {
            for (int row = 0; row < SIDE; row++) {
                sumRow(from, row * SIDE);
                for (int x = 0; x < SIDE; x++) {
                    to[x * SIDE + row] = (int) (sums[x] >> 15);
                }
            }
        }

        /** In long, as eight of the largest numbers go beyond an int. Most numbers are 0. */
        private void sumRow(int[] from, int start) {
            Arrays.fill(sums, 16384);
            for (int u = 0; u < SIDE; u++) {
                long number = from[start + u];
                if (number != 0) {
                    for (int x = 0; x < SIDE; x++) {
                        sums[x] += waves[x * SIDE + u] * number;
                    }
                }
            }
        }
    }
}
