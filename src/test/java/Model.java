import java.util.ArrayList;
import java.util.HashMap;
import java.util.List;
import java.util.Map;

/**
 * The document a second time, for ModelTest: close to its words, without a thought of speed, and
 * built otherwise than the class: bits are text, a fault is thrown, a picture is made anew.
 */
final class Model {
    private static final String ORDER = "(0,0) (1,0) (1,1) (0,1) (0,2) (0,3) (1,3) (1,2) (2,2) (2,3)"
        + " (3,3) (3,2) (3,1) (2,1) (2,0) (3,0)";
    private static final int[] C = {0, 16069, 15137, 13623, 11585, 9102, 6270, 3196};

    private static final class Fault extends RuntimeException {
        private static final long serialVersionUID = 1L;
        private final int code;

        Fault(int code) {
            this.code = code;
        }
    }

    private static final class Header {
        private int width;
        private int height;
        private int limit;
        private final int[] scales = new int[8];
        private final int[] steps = new int[16];
        private Map<String, Integer> first;
        private Map<String, Integer> further;
    }

    private static final class Block {
        private final int column;
        private final int row;
        private int mode = 2;
        private int v;
        private int w;
        private final long[] numbers = new long[64];
        private int place = 0;

        Block(int column, int row) {
            this.column = column;
            this.row = row;
        }

        boolean coded() {
            return mode != 0;
        }

        String kind() {
            return mode == 2 ? "new" : mode == 4 ? "golden" : "else";
        }
    }

    private String tape = "";
    private int position = 0;
    private Header header = null;
    private Block[][] latest = null;
    private int[][] previous = null;
    private int[][] golden = null;
    private int count = 0;
    private int toEnd;

    int feed(int... numbers) {
        if (tape.length() / 8 + 16 > 6000) {
            throw new IllegalStateException();
        }
        StringBuilder behind = new StringBuilder(tape);
        for (int number : numbers) {
            String text = Integer.toBinaryString(number);
            behind.append("0".repeat(32 - text.length())).append(text);
        }
        tape = behind.toString();
        return tape.length() / 8;
    }

    void end(int n) {
        if (n < 0 || 8L * n > tape.length()) {
            throw new IllegalArgumentException();
        }
        tape = tape.substring(0, 8 * n);
    }

    int header() {
        position = 0;
        try {
            header = readHeader();
            latest = null;
            previous = null;
            golden = null;
            count = 0;
            return 0;
        } catch (Fault fault) {
            return fault.code;
        } finally {
            tape = "";
        }
    }

    int frame() {
        if (header == null) {
            throw new IllegalStateException();
        }
        position = 0;
        try {
            readFrame();
            count++;
            return 0;
        } catch (Fault fault) {
            return fault.code;
        } finally {
            tape = "";
        }
    }

    int head(int what) {
        if (header == null) {
            throw new IllegalStateException();
        }
        int[] all = {header.width, header.height, header.limit, header.first.size(),
            header.further.size()};
        if (what < 0 || what > 4) {
            throw new IllegalArgumentException();
        }
        return all[what];
    }

    int frames() {
        return count;
    }

    int sample(int x, int y, boolean ofGolden) {
        if (previous == null) {
            throw new IllegalStateException();
        }
        return (ofGolden ? golden : previous)[y][x];
    }

    int block(int column, int row, int what) {
        if (previous == null) {
            throw new IllegalStateException();
        }
        Block block = latest[row][column];
        if (what < 0 || what > 3) {
            throw new IllegalArgumentException();
        }
        return new int[] {block.mode, block.v, block.w, (int) block.numbers[0]}[what];
    }

    int taken() {
        return position;
    }

    int sum() {
        int sum = 0;
        for (int y = 0; previous != null && y < previous.length; y++) {
            for (int sample : previous[y]) {
                sum = sum * 31 + sample;
            }
        }
        return sum;
    }

    private int bits(int many) {
        int number = 0;
        for (int i = 0; i < many; i++) {
            if (position == tape.length()) {
                throw new Fault(1);
            }
            number = number * 2 + (tape.charAt(position) - '0');
            position++;
        }
        return number;
    }

    private Header readHeader() {
        Header read = new Header();
        read.width = bits(3) + 1;
        read.height = bits(3) + 1;
        if (read.width - 1 > 5 || read.height - 1 > 5) {
            throw new Fault(2);
        }
        read.limit = bits(5);
        for (int i = 0; i < 8; i++) {
            read.scales[i] = bits(10);
        }
        for (int i = 0; i < 16; i++) {
            read.steps[i] = bits(8);
        }
        read.first = readTree("", new HashMap<>());
        read.further = readTree("", new HashMap<>());
        return read;
    }

    private Map<String, Integer> readTree(String path, Map<String, Integer> tree) {
        if (bits(1) == 1) {
            if (tree.size() == 32) {
                throw new Fault(3);
            }
            tree.put(path, bits(5));
        } else {
            if (path.length() == 12) {
                throw new Fault(3);
            }
            readTree(path + "0", tree);
            readTree(path + "1", tree);
        }
        return tree;
    }

    private void readFrame() {
        boolean between = bits(1) == 1;
        if (between && previous == null) {
            throw new Fault(4);
        }
        int scale = header.scales[bits(3)];
        boolean kept = bits(1) == 1;
        Block[][] blocks = new Block[header.height][header.width];
        List<Block> order = order(blocks);
        if (between) {
            readFlags(order);
            order.removeIf(block -> !block.coded());
            readModes(order);
        }
        readTokens(order);
        guess(blocks);
        int[][] next = paint(blocks, scale);
        if (header.limit != 0) {
            smooth(blocks, next);
        }
        latest = blocks;
        previous = next;
        if (!between || kept) {
            golden = next;
        }
    }

    private static List<Block> order(Block[][] blocks) {
        List<Block> order = new ArrayList<>();
        for (int y = 0; y < blocks.length; y += 4) {
            for (int x = 0; x < blocks[0].length; x += 4) {
                for (String place : ORDER.split(" ")) {
                    int column = x + place.charAt(1) - '0';
                    int row = y + place.charAt(3) - '0';
                    if (column < blocks[0].length && row < blocks.length) {
                        blocks[row][column] = new Block(column, row);
                        order.add(blocks[row][column]);
                    }
                }
            }
        }
        return order;
    }

    private void readFlags(List<Block> order) {
        boolean coded = bits(1) == 1;
        int next = 0;
        while (next < order.size()) {
            int run;
            if (bits(1) == 0) {
                run = 1;
            } else if (bits(1) == 0) {
                run = 2 + bits(1);
            } else if (bits(1) == 0) {
                run = 4 + bits(2);
            } else {
                run = 8 + bits(5);
            }
            if (next + run > order.size()) {
                throw new Fault(5);
            }
            for (int i = 0; i < run; i++) {
                order.get(next).mode = coded ? 2 : 0;
                next++;
            }
            coded = !coded;
        }
    }

    private void readModes(List<Block> coded) {
        int[] moves = {0, 0};
        for (Block block : coded) {
            int ones = 0;
            while (ones < 4 && bits(1) == 1) {
                ones++;
            }
            block.mode = new int[] {1, 2, 3, 3, 4}[ones];
            if (ones == 2) {
                int across = bits(5);
                across *= bits(1) == 1 ? -1 : 1;
                int down = bits(5);
                down *= bits(1) == 1 ? -1 : 1;
                moves = new int[] {across, down};
            }
            if (block.mode == 3) {
                block.v = moves[0];
                block.w = moves[1];
            }
        }
    }

    private void readTokens(List<Block> coded) {
        toEnd = 0;
        for (int place = 0; place < 64; place++) {
            for (Block block : coded) {
                if (block.place == place) {
                    if (toEnd > 0) {
                        toEnd--;
                        block.place = -1;
                    } else {
                        follow(block, token(place == 0 ? header.first : header.further));
                    }
                }
            }
        }
    }

    private int token(Map<String, Integer> tree) {
        String path = "";
        while (!tree.containsKey(path)) {
            path += bits(1);
        }
        return tree.get(path);
    }

    private int sign() {
        return bits(1) == 1 ? -1 : 1;
    }

    private void follow(Block block, int token) {
        switch (token) {
            case 0: endAnd(block, 0); break;
            case 1: endAnd(block, 1); break;
            case 2: endAnd(block, 2 + bits(2)); break;
            case 3: endAnd(block, 6 + bits(3)); break;
            case 4: endAnd(block, 14 + bits(8)); break;
            case 5: pass(block, 1 + bits(3)); break;
            case 6: pass(block, 9 + bits(6)); break;
            case 7: number(block, 0, 1); break;
            case 8: number(block, 0, -1); break;
            case 9: number(block, 0, 2); break;
            case 10: number(block, 0, -2); break;
            case 11: number(block, 0, sign() * 3); break;
            case 12: number(block, 0, sign() * 4); break;
            case 13: number(block, 0, sign() * 5); break;
            case 14: number(block, 0, sign() * 6); break;
            case 15: number(block, 0, sign() * (7 + bits(1))); break;
            case 16: number(block, 0, sign() * (9 + bits(2))); break;
            case 17: number(block, 0, sign() * (13 + bits(3))); break;
            case 18: number(block, 0, sign() * (21 + bits(4))); break;
            case 19: number(block, 0, sign() * (37 + bits(6))); break;
            case 20: number(block, 0, sign() * (101 + bits(9))); break;
            default: followLater(block, token);
        }
    }

    private void followLater(Block block, int token) {
        int sign = token < 30 ? sign() : 1;
        if (token <= 25) {
            number(block, token - 20, sign);
        } else if (token == 26) {
            number(block, 6 + bits(2), sign);
        } else if (token == 27) {
            number(block, 10 + bits(3), sign);
        } else if (token == 28) {
            number(block, 1, sign * (2 + bits(1)));
        } else if (token == 29) {
            int size = 2 + bits(1);
            number(block, 2 + bits(1), sign * size);
        } else {
            number(block, 0, token == 30 ? 1 : -1);
            block.place = -1;
        }
    }

    private void endAnd(Block block, int more) {
        block.place = -1;
        toEnd = more;
    }

    private void pass(Block block, int places) {
        block.place += places;
        if (block.place > 64) {
            throw new Fault(6);
        }
    }

    private void number(Block block, int passed, int number) {
        block.place += passed;
        if (block.place >= 64) {
            throw new Fault(6);
        }
        block.numbers[block.place] = number;
        block.place++;
    }

    private static void guess(Block[][] blocks) {
        Map<String, Long> latestOf = new HashMap<>();
        for (Block[] row : blocks) {
            for (Block block : row) {
                if (!block.coded()) {
                    continue;
                }
                List<Long> near = new ArrayList<>();
                if (block.column > 0) {
                    addIfAlike(near, block, row[block.column - 1]);
                }
                if (block.row > 0) {
                    addIfAlike(near, block, blocks[block.row - 1][block.column]);
                }
                long guess = latestOf.getOrDefault(block.kind(), 0L);
                if (near.size() == 2) {
                    guess = (near.get(0) + near.get(1)) / 2;
                } else if (near.size() == 1) {
                    guess = near.get(0);
                }
                block.numbers[0] += guess;
                latestOf.put(block.kind(), block.numbers[0]);
            }
        }
    }

    private static void addIfAlike(List<Long> near, Block block, Block other) {
        if (other.coded() && other.kind().equals(block.kind())) {
            near.add(other.numbers[0]);
        }
    }

    private long[][] added(Block block, int scale) {
        long[][] square = new long[8][8];
        int column = 0;
        int row = 0;
        for (int place = 0; place < 64; place++) {
            long factor = Math.max(2, Math.min(4096, header.steps[place / 4] * scale / 100));
            square[row][column] =
                Math.max(-32768, Math.min(32767, block.numbers[place] * factor));
            boolean upwards = (column + row) % 2 == 0;
            if (upwards && column == 7 || !upwards && row == 7) {
                // The next diagonal begins beside the lower or the right border.
                column += upwards ? 0 : 1;
                row += upwards ? 1 : 0;
            } else if (upwards) {
                column++;
                row = Math.max(0, row - 1);
            } else {
                row++;
                column = Math.max(0, column - 1);
            }
        }
        long[][] rows = new long[8][8];
        for (int y = 0; y < 8; y++) {
            for (int x = 0; x < 8; x++) {
                long sum = 16384;
                for (int u = 0; u < 8; u++) {
                    sum += t(x, u) * square[y][u];
                }
                rows[y][x] = Math.floorDiv(sum, 32768L);
            }
        }
        long[][] added = new long[8][8];
        for (int x = 0; x < 8; x++) {
            for (int y = 0; y < 8; y++) {
                long sum = 16384;
                for (int u = 0; u < 8; u++) {
                    sum += t(y, u) * rows[u][x];
                }
                added[y][x] = Math.floorDiv(sum, 32768L);
            }
        }
        return added;
    }

    private static long t(int x, int u) {
        if (u == 0) {
            return 11585;
        }
        int m = (2 * x + 1) * u % 32;
        if (m < 8) {
            return C[m];
        } else if (m >= 9 && m <= 15) {
            return -C[16 - m];
        } else if (m >= 17 && m <= 23) {
            return -C[m - 16];
        }
        return C[32 - m];
    }

    private int[][] paint(Block[][] blocks, int scale) {
        int[][] next = new int[8 * header.height][8 * header.width];
        for (Block[] row : blocks) {
            for (Block block : row) {
                long[][] added = added(block, scale);
                for (int i = 0; i < 64; i++) {
                    int x = 8 * block.column + i % 8;
                    int y = 8 * block.row + i / 8;
                    long sample = under(block, x, y) + (block.coded() ? added[i / 8][i % 8] : 0);
                    next[y][x] = (int) Math.max(0, Math.min(255, sample));
                }
            }
        }
        return next;
    }

    private int under(Block block, int x, int y) {
        switch (block.mode) {
            case 0:
                return previous[y][x];
            case 2:
                return 128;
            case 4:
                return golden[y][x];
            default:
                int a = Math.floorDiv(block.v, 2);
                int b = -Math.floorDiv(-block.v, 2);
                int c = Math.floorDiv(block.w, 2);
                int d = -Math.floorDiv(-block.w, 2);
                return (brought(x + a, y + c) + brought(x + b, y + d)) / 2;
        }
    }

    private int brought(int x, int y) {
        int row = y < 0 ? 0 : y >= previous.length ? previous.length - 1 : y;
        int column = x < 0 ? 0 : x >= previous[row].length ? previous[row].length - 1 : x;
        return previous[row][column];
    }

    private void smooth(Block[][] blocks, int[][] picture) {
        for (Block[] row : blocks) {
            for (Block block : row) {
                int x = 8 * block.column;
                int y = 8 * block.row;
                if (!block.coded()) {
                    continue;
                }
                if (block.column > 0) {
                    smoothEdge(picture, x, y, 1, 0);
                }
                if (block.row > 0) {
                    smoothEdge(picture, x, y, 0, 1);
                }
                if (block.column + 1 < row.length && !row[block.column + 1].coded()) {
                    smoothEdge(picture, x + 8, y, 1, 0);
                }
                if (block.row + 1 < blocks.length
                    && !blocks[block.row + 1][block.column].coded()) {
                    smoothEdge(picture, x, y + 8, 0, 1);
                }
            }
        }
    }

    private void smoothEdge(int[][] picture, int left, int top, int dx, int dy) {
        for (int i = 0; i < 8; i++) {
            int x = left + dy * i;
            int y = top + dx * i;
            int a = picture[y - 2 * dy][x - 2 * dx];
            int b = picture[y - dy][x - dx];
            int c = picture[y][x];
            int d = picture[y + dy][x + dx];
            int r = Math.floorDiv(a - 3 * b + 3 * c - d + 4, 8);
            int f = 0;
            if (Math.abs(r) < header.limit) {
                f = r;
            } else if (Math.abs(r) < 2 * header.limit) {
                f = Integer.signum(r) * (2 * header.limit - Math.abs(r));
            }
            picture[y - dy][x - dx] = Math.max(0, Math.min(255, b + f));
            picture[y][x] = Math.max(0, Math.min(255, c - f));
        }
    }
}
