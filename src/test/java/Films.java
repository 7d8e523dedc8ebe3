/** What several tests do with an object. */
final class Films {
    /** The order of six by six blocks, in raster from 0. */
    private static final int[] ORDER = {
        0, 1, 7, 6, 12, 18, 19, 13, 14, 20, 21, 15, 9, 8, 2, 3,
        4, 5, 11, 10, 16, 22, 23, 17,
        24, 25, 31, 30, 33, 32, 26, 27,
        28, 29, 35, 34};

    private Films() {
    }

    /** The order of the blocks of any picture, in raster from 0: those outside are left out. */
    static int[] order(int columns, int rows) {
        int[] order = new int[columns * rows];
        int count = 0;
        for (int block : ORDER) {
            if (block % 6 < columns && block / 6 < rows) {
                order[count] = block / 6 * columns + block % 6;
                count++;
            }
        }
        return order;
    }

    /** The flags that tell of each block, in raster, whether it is coded. */
    static Bits flags(int columns, boolean[] coded) {
        int[] order = order(columns, coded.length / columns);
        Bits flags = new Bits().put(coded[order[0]] ? 1 : 0, 1);
        int from = 0;
        for (int i = 1; i <= order.length; i++) {
            if (i == order.length || coded[order[i]] != coded[order[from]]) {
                flags.runs(i - from);
                from = i;
            }
        }
        return flags;
    }

    /** A frame that is not between, by a scale. */
    static Bits first(int scale) {
        return new Bits().put(0, 1).put(scale, 3).put(0, 1);
    }

    /** A frame that is between, by the first scale, not kept: its flags follow. */
    static Bits between() {
        return new Bits().put(1, 1).put(0, 3).put(0, 1);
    }

    /** Reads a frame that has no fault, and looks at what it took. */
    static void take(String what, Film film, Bits frame) {
        int before = film.frames();
        frame.feedTo(film);
        Check.due(what + ": frame()", 0, film.frame());
        Check.due(what + ": taken()", frame.length(), film.taken());
        Check.due(what + ": frames()", before + 1, film.frames());
    }

    /** Reads a frame that has a fault, and looks that it changed nothing but the tape. */
    static void refuse(String what, Film film, Bits frame, int fault, int taken) {
        String before = state(film);
        frame.feedTo(film);
        Check.due(what + ": frame()", fault, film.frame());
        Check.due(what + ": taken()", taken, film.taken());
        Check.due(what + ": the state is the same", before.equals(state(film)));
        Check.dueThrow(what + ": the tape is empty", IllegalArgumentException.class,
            () -> film.end(1));
    }

    /** All that the document promises of the object, but what it took: header, blocks, samples. */
    static String state(Film film) {
        StringBuilder state = new StringBuilder();
        state.append(film.frames()).append(' ').append(film.sum());
        // Without a header there is nothing at (0, 0), either.
        int[] head = {1, 1, 0, 0, 0};
        for (int what = 0; what < head.length; what++) {
            try {
                head[what] = film.head(what);
                state.append(' ').append(head[what]);
            } catch (IllegalStateException e) {
                state.append(" none");
            }
        }
        for (int i = 0; i < head[0] * head[1]; i++) {
            addBlock(state, film, i % head[0], i / head[0]);
        }
        int width = 8 * head[0];
        for (int i = 0; i < 64 * head[0] * head[1]; i++) {
            addSample(state, film, i % width, i / width);
        }
        return state.toString();
    }

    private static void addBlock(StringBuilder state, Film film, int column, int row) {
        try {
            int mode = film.block(column, row, 0);
            state.append(' ').append(mode);
            for (int what = 1; what < (mode == 0 ? 3 : 4); what++) {
                state.append(' ').append(film.block(column, row, what));
            }
        } catch (IllegalStateException e) {
            state.append(" none");
        }
    }

    private static void addSample(StringBuilder state, Film film, int x, int y) {
        try {
            state.append(' ').append(film.sample(x, y, false));
            state.append(' ').append(film.sample(x, y, true));
        } catch (IllegalStateException e) {
            state.append(" none");
        }
    }

    /**
     * Looks at a block's number at place 0. The document says none for a block that is not coded:
     * of that one it is only asked, as the call may throw nothing.
     */
    static void number(String what, int due, Film film, int column, int row) {
        int got = film.block(column, row, 3);
        if (film.block(column, row, 0) != 0) {
            Check.due(what, due, got);
        }
    }

    /** What each sample of a block becomes by a number at place 0 alone, times its factor. */
    static int level(int number) {
        long row = Math.floorDiv(11585L * number + 16384, 32768L);
        return (int) Math.floorDiv(11585L * row + 16384, 32768L);
    }

    static int inByte(int value) {
        return Math.max(0, Math.min(255, value));
    }
}
