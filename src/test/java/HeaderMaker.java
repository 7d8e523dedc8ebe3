import java.util.Arrays;

/** A header to be changed before it is written: one block, full trees, every factor 2. */
final class HeaderMaker {
    static final String FULL_TREE = fullTree();

    int columns = 1;
    int rows = 1;
    int limit = 0;
    final int[] scales = new int[8];
    final int[] steps = new int[16];
    String firstTree = FULL_TREE;
    String furtherTree = FULL_TREE;

    HeaderMaker() {
        Arrays.fill(scales, 100);
        Arrays.fill(steps, 2);
    }

    static HeaderMaker of(int columns, int rows) {
        HeaderMaker maker = new HeaderMaker();
        maker.columns = columns;
        maker.rows = rows;
        return maker;
    }

    HeaderMaker limit(int value) {
        limit = value;
        return this;
    }

    HeaderMaker steps(int value) {
        Arrays.fill(steps, value);
        return this;
    }

    HeaderMaker trees(String first, String further) {
        firstTree = first;
        furtherTree = further;
        return this;
    }

    /** All that stands before the trees. */
    Bits beginning() {
        Bits bits = new Bits().put(columns - 1, 3).put(rows - 1, 3).put(limit, 5);
        for (int scale : scales) {
            bits.put(scale, 10);
        }
        for (int step : steps) {
            bits.put(step, 8);
        }
        return bits;
    }

    Bits bits() {
        return beginning().put(firstTree).put(furtherTree);
    }

    Film film() {
        Film film = bits().feedTo(new Film());
        if (film.header() != 0) {
            throw new AssertionError("the header has a fault");
        }
        return film;
    }

    static String leaf(int token) {
        return new Bits().put(1, 1).put(token, 5).text();
    }

    /** A tree in which each token has five bits, its own number. */
    private static String fullTree() {
        return branch(0, 0);
    }

    private static String branch(int depth, int prefix) {
        if (depth == 5) {
            return leaf(prefix);
        }
        return "0" + branch(depth + 1, 2 * prefix) + branch(depth + 1, 2 * prefix + 1);
    }
}
