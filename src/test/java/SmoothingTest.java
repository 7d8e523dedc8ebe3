import java.util.Random;

/** Promise 5, SMOOTHING: which edges, in which order, and by how much. */
public final class SmoothingTest {
    public static void main(String[] args) {
        steps();
        bounds();
        edgesOfOneBlock();
        notCodedAlone();
        everyPatternOfNine();
        everySize();
        Check.end();
    }

    /** Two blocks side by side or one above the other, of 128 and so far above it. */
    private static Film pair(boolean upright, int limit, int apart) {
        for (int size = 1; size <= 36; size++) {
            for (int step = 2; step < 256; step++) {
                int number = apart < 0 ? -size : size;
                if (Films.level(number * step) == apart) {
                    return pair(upright, limit, step, number);
                }
            }
        }
        throw new AssertionError("no number brings " + apart);
    }

    private static Film pair(boolean upright, int limit, int step, int number) {
        Film film = HeaderMaker.of(upright ? 2 : 1, upright ? 1 : 2).limit(limit).steps(step)
            .film();
        Films.take("a pair", film, Films.first(0).tokens(5).put(7, 3)
            .numbers(number).tokens(0, 0));
        return film;
    }

    private static void steps() {
        // By hand: how far the second is above the first, LIMIT, and by how much both change.
        // 2 times 25 and 4, of 8: 6. 2 times -25 and 4, of 8, rounded down: -6.
        edge(25, 31, 6);
        edge(25, 7, 6);
        edge(25, 6, 6);
        edge(25, 5, 4);
        edge(25, 4, 2);
        edge(25, 3, 0);
        edge(25, 1, 0);
        edge(25, 0, 0);
        edge(-25, 31, -6);
        edge(-25, 7, -6);
        edge(-25, 6, -6);
        edge(-25, 5, -4);
        edge(-25, 4, -2);
        edge(-25, 3, 0);
        edge(-25, 0, 0);
        // 2 times 22 and 4, of 8: 6. 2 times -22 and 4: -40, of 8: -5.
        edge(22, 31, 6);
        edge(-22, 31, -5);
        edge(-23, 31, -6);
        // LIMIT 1: only sizes of 1 are below twice that.
        edge(1, 1, 0);
        edge(2, 1, 1);
        edge(5, 1, 1);
        edge(6, 1, 0);
        edge(-2, 1, 0);
        edge(-3, 1, -1);
        edge(-6, 1, -1);
        edge(-7, 1, 0);
        edge(2, 0, 0);
        edge(-3, 0, 0);
        // Sizes of 30, 31 and 32 at LIMIT 16.
        edge(118, 16, 2);
        edge(122, 16, 1);
        edge(126, 16, 0);
        edge(-122, 16, -2);
        edge(-126, 16, -1);
        edge(-128, 16, 0);
        edge(120, 31, 30);
        edge(-120, 31, -30);
        edge(-128, 31, 0 - 30);
        edge(127, 31, 30);
    }

    private static void edge(int apart, int limit, int change) {
        for (int i = 0; i < 2; i++) {
            boolean upright = i == 0;
            Film film = pair(upright, limit, apart);
            String what = apart + " apart, LIMIT " + limit + (upright ? ", upright" : ", level");
            for (int line = 0; line < 8; line++) {
                Check.due(what + ": a", 128, at(film, upright, line, 6));
                Check.due(what + ": b", 128 + change, at(film, upright, line, 7));
                Check.due(what + ": c", Films.inByte(128 + apart) - change,
                    at(film, upright, line, 8));
                Check.due(what + ": d", Films.inByte(128 + apart), at(film, upright, line, 9));
            }
        }
    }

    private static int at(Film film, boolean upright, int line, int across) {
        return upright ? film.sample(across, line, true) : film.sample(line, across, true);
    }

    /** Samples stay within 0 .. 255: a steep line beside the edge would take them beyond. */
    private static void bounds() {
        Random random = new Random(3);
        int beyond = 0;
        for (int run = 0; run < 200; run++) {
            Bits frame = Films.first(0);
            for (int i = 0; i < 40; i++) {
                frame.tokens(17).put(random.nextInt(16), 4);
            }
            frame.tokens(1);
            Film plain = HeaderMaker.of(2, 1).steps(15).film();
            Film smooth = HeaderMaker.of(2, 1).steps(15).limit(31).film();
            Films.take("plain", plain, frame);
            Films.take("smooth", smooth, frame);
            beyond |= sameButSmooth("run " + run, plain, smooth, 31);
        }
        Check.due("both are brought up and down", 15, beyond);
    }

    /** Compares b and c of each line; tells by bits which of them went beyond which bound. */
    private static int sameButSmooth(String what, Film plain, Film smooth, int limit) {
        int beyond = 0;
        for (int y = 0; y < 8; y++) {
            int b = plain.sample(7, y, false);
            int c = plain.sample(8, y, false);
            int f = softened(plain.sample(6, y, false) - 3 * b + 3 * c
                - plain.sample(9, y, false) + 4, limit);
            String line = what + ", line " + y;
            Check.due(line + ": b", Films.inByte(b + f), smooth.sample(7, y, false));
            Check.due(line + ": c", Films.inByte(c - f), smooth.sample(8, y, false));
            beyond |= (b + f < 0 ? 1 : 0) | (b + f > 255 ? 2 : 0);
            beyond |= (c - f < 0 ? 4 : 0) | (c - f > 255 ? 8 : 0);
        }
        return beyond;
    }

    private static int softened(int eightfold, int limit) {
        int r = Math.floorDiv(eightfold, 8);
        if (r > -limit && r < limit) {
            return r;
        }
        if (r >= limit) {
            return Math.max(0, 2 * limit - r);
        }
        return Math.min(0, -2 * limit - r);
    }

    /** Of nine blocks only the middle one is coded: its four edges, in turn, and no other. */
    private static void edgesOfOneBlock() {
        int limit = 31;
        int[][] picture = new int[24][24];
        Film film = nine(limit, picture);
        // In order 0 1 4 3 6 7 8 5 2 of the raster: the third one.
        Films.take("the middle one", film, Films.between().put("0 100 0 110 10").put("0")
            .tokens(0));
        smoothLines(picture, 8, 8, true, limit);
        smoothLines(picture, 8, 8, false, limit);
        smoothLines(picture, 16, 8, true, limit);
        smoothLines(picture, 8, 16, false, limit);
        same("the middle one", picture, film);
        // Beside it (2,1) is coded, too: the edge between them is smoothed by that one alone.
        copy(film, picture);
        Films.take("two", film, Films.between().put("0 100 0 110 00 0 0").put("00").tokens(1));
        smoothLines(picture, 8, 8, true, limit);
        smoothLines(picture, 8, 8, false, limit);
        smoothLines(picture, 8, 16, false, limit);
        smoothLines(picture, 16, 8, true, limit);
        smoothLines(picture, 16, 8, false, limit);
        smoothLines(picture, 16, 16, false, limit);
        same("two", picture, film);
        // All are coded: left and upper edges, in raster.
        copy(film, picture);
        Films.take("all", film, Films.between().put("1 111 00001").put(0, 9).tokens(3).put(2, 3));
        for (int i = 0; i < 9; i++) {
            if (i % 3 > 0) {
                smoothLines(picture, i % 3 * 8, i / 3 * 8, true, limit);
            }
            if (i / 3 > 0) {
                smoothLines(picture, i % 3 * 8, i / 3 * 8, false, limit);
            }
        }
        same("all", picture, film);
    }

    private static Film nine(int limit, int[][] picture) {
        Film film = HeaderMaker.of(3, 3).limit(limit).steps(40).film();
        Bits frame = Films.first(0);
        for (int i = 0; i < 9; i++) {
            frame.tokens(15).put(i * 5 % 3 == 0 ? 1 : 0, 1).put(i % 2, 1);
        }
        for (int i = 0; i < 18; i++) {
            frame.tokens(11 + i % 4).put(i % 5 % 2, 1);
        }
        Films.take("nine", film, frame.tokens(3).put(2, 3));
        copy(film, picture);
        return film;
    }

    private static void copy(Film film, int[][] picture) {
        int width = picture[0].length;
        for (int i = 0; i < width * picture.length; i++) {
            picture[i / width][i % width] = film.sample(i % width, i / width, false);
        }
    }

    private static void same(String what, int[][] picture, Film film) {
        int width = picture[0].length;
        for (int i = 0; i < width * picture.length; i++) {
            int x = i % width;
            int y = i / width;
            Check.due(what + ": sample " + x + ", " + y, picture[y][x], film.sample(x, y, false));
        }
    }

    private static void smoothLines(int[][] picture, int x, int y, boolean upright, int limit) {
        for (int i = 0; i < 8; i++) {
            int row = upright ? y + i : y;
            int column = upright ? x : x + i;
            int down = upright ? 0 : 1;
            int across = upright ? 1 : 0;
            int f = softened(picture[row - 2 * down][column - 2 * across]
                - 3 * picture[row - down][column - across] + 3 * picture[row][column]
                - picture[row + down][column + across] + 4, limit);
            picture[row - down][column - across] =
                Films.inByte(picture[row - down][column - across] + f);
            picture[row][column] = Films.inByte(picture[row][column] - f);
        }
    }

    private static void notCodedAlone() {
        int[][] picture = new int[24][24];
        Film film = nine(20, picture);
        Films.take("none", film, Films.between().put("0 111 00001"));
        same("none", picture, film);
    }

    /** Whatever is coded of nine blocks: all edges that the document names, and no other. */
    private static void everyPatternOfNine() {
        for (int pattern = 0; pattern < 512; pattern++) {
            boolean[] coded = new boolean[9];
            for (int i = 0; i < 9; i++) {
                coded[i] = (pattern >> i & 1) == 1;
            }
            int[][] picture = new int[24][24];
            Film film = nine(31, picture);
            takeCoded("pattern " + pattern, film, 3, coded);
            smoothAll(picture, coded, 31);
            same("pattern " + pattern, picture, film);
        }
    }

    /** The coded blocks are as in the previous picture, but for their edges. */
    private static void takeCoded(String what, Film film, int columns, boolean[] coded) {
        Bits frame = Films.between().put(Films.flags(columns, coded).text());
        int count = 0;
        for (boolean one : coded) {
            count += one ? 1 : 0;
        }
        frame.put("0".repeat(count));
        if (count > 0) {
            frame.tokens(4).put(255, 8);
        }
        Films.take(what, film, frame);
    }

    private static void smoothAll(int[][] picture, boolean[] coded, int limit) {
        int columns = picture[0].length / 8;
        for (int i = 0; i < coded.length; i++) {
            int x = i % columns * 8;
            int y = i / columns * 8;
            if (coded[i] && x > 0) {
                smoothLines(picture, x, y, true, limit);
            }
            if (coded[i] && y > 0) {
                smoothLines(picture, x, y, false, limit);
            }
            if (coded[i] && x + 8 < picture[0].length && !coded[i + 1]) {
                smoothLines(picture, x + 8, y, true, limit);
            }
            if (coded[i] && y + 8 < picture.length && !coded[i + columns]) {
                smoothLines(picture, x, y + 8, false, limit);
            }
        }
    }

    /** Edges of the picture have no block behind them, however many blocks it has. */
    private static void everySize() {
        Random random = new Random(11);
        for (int size = 0; size < 36 * 4; size++) {
            int columns = 1 + size % 6;
            int rows = 1 + size / 6 % 6;
            int limit = size < 36 ? 0 : 1 + random.nextInt(31);
            int[][] picture = new int[8 * rows][8 * columns];
            Film film = rough(random, columns, rows, limit);
            copy(film, picture);
            boolean[] coded = new boolean[columns * rows];
            for (int i = 0; i < coded.length; i++) {
                coded[i] = size / 36 == 1 || random.nextInt(3) > 0;
            }
            String what = columns + " by " + rows + ", LIMIT " + limit;
            takeCoded(what, film, columns, coded);
            if (limit > 0) {
                smoothAll(picture, coded, limit);
            }
            same(what, picture, film);
        }
    }

    private static Film rough(Random random, int columns, int rows, int limit) {
        Film film = HeaderMaker.of(columns, rows).limit(limit).steps(30).film();
        Bits frame = Films.first(0);
        for (int i = 0; i < 3 * columns * rows; i++) {
            int size = 1 + random.nextInt(12);
            frame.numbers(random.nextBoolean() ? size : -size);
        }
        Films.take("rough", film, frame.tokens(4).put(255, 8));
        return film;
    }
}
