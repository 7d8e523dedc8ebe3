/** Promise 9: of a block in the latest frame that was taken. */
public final class BlockTest {
    public static void main(String[] args) {
        Film film = HeaderMaker.of(3, 2).film();
        Check.dueThrow("no picture", IllegalStateException.class, () -> film.block(-1, 0, 9));
        Films.take("a first frame", film, Films.first(0).tokens(7, 9, 8, 10, 7, 3).put(0, 3));
        // In order: (0,0) (1,0) (1,1) (0,1) (2,1) (2,0), which ends at once.
        int[] numbers = {1, 2 + 1, 0 + 3, -2 + 1, -1 + (-1 + 3) / 2, 1 + (0 + 3) / 2};
        blocks("first", film, new int[] {2, 2, 2, 2, 2, 2}, new int[6], new int[6], numbers);
        Bits between = Films.between().put("1 110 01 0").put("110").put(31, 5).put(1, 1)
            .put(30, 5).put(0, 1).put("1111 0 10 1110").tokens(7, 7, 7, 7, 7, 2).put(2, 2);
        Films.take("a frame between", film, between);
        // Coded are five: (0,0) moved, (1,0) golden, (1,1) previous, (0,1) new, (2,1) moved.
        blocks("between", film, new int[] {3, 4, 0, 2, 1, 3}, new int[] {-31, 0, 0, 0, 0, -31},
            new int[] {30, 0, 0, 0, 0, 30}, new int[] {1, 1, 0, 1, 2, 3});
        Films.refuse("a fault", film, Films.between().put("1 110 11"), 5, 11);
        blocks("behind a fault", film, new int[] {3, 4, 0, 2, 1, 3},
            new int[] {-31, 0, 0, 0, 0, -31}, new int[] {30, 0, 0, 0, 0, 30},
            new int[] {1, 1, 0, 1, 2, 3});
        exceptions(film);
        Films.take("none is coded", film, Films.between().put("0 110 10"));
        blocks("none", film, new int[6], new int[6], new int[6], new int[6]);
        belowZeroIsZero(film);
        nothingOfEarlierFrames();
        lastOfEverySize();
        Check.end();
    }

    /** Rows of what is due, in raster. */
    private static void blocks(String what, Film film, int[] modes, int[] across,
            int[] down, int[] numbers) {
        for (int i = 0; i < 6; i++) {
            String which = what + ", block " + i;
            Check.due(which + ": mode", modes[i], film.block(i % 3, i / 3, 0));
            Check.due(which + ": across", across[i], film.block(i % 3, i / 3, 1));
            Check.due(which + ": down", down[i], film.block(i % 3, i / 3, 2));
            Films.number(which + ": number", numbers[i], film, i % 3, i / 3);
        }
    }

    private static void exceptions(Film film) {
        int[][] wrong = {{-1, 0}, {0, -1}, {3, 0}, {0, 2}, {2, 2}, {Integer.MAX_VALUE, 1},
            {0, Integer.MIN_VALUE}};
        for (int[] place : wrong) {
            for (int what = -1; what < 5; what++) {
                int asked = what;
                Check.dueThrow("block " + place[0] + ", " + place[1] + ", " + what,
                    IndexOutOfBoundsException.class,
                    () -> film.block(place[0], place[1], asked));
            }
        }
        int[] wrongWhats = {-1, 4, Integer.MAX_VALUE, Integer.MIN_VALUE};
        for (int what : wrongWhats) {
            Check.dueThrow("block what " + what, IllegalArgumentException.class,
                () -> film.block(2, 1, what));
        }
    }

    private static void belowZeroIsZero(Film film) {
        Films.take("0 below 0", film, Films.between().put("1 0 110 01")
            .put("110 00000 1 00000 1").tokens(0));
        Check.due("mode", 3, film.block(0, 0, 0));
        Check.due("across", 0, film.block(0, 0, 1));
        Check.due("down", 0, film.block(0, 0, 2));
    }

    /** A block that was moved, and has numbers, has none of it in a frame that does not say so. */
    private static void nothingOfEarlierFrames() {
        String[] modes = {"0", "10", "1111", "1110", ""};
        int[] due = {1, 2, 4, 3, 0};
        Film film = HeaderMaker.of(2, 1).film();
        Films.take("a picture", film, Films.first(0).numbers(5, 6).tokens(1));
        Bits moved = Films.between().put("1").runs(2).put("110 00101 1 00011 0 1110")
            .numbers(9, 11).tokens(1);
        for (int i = 0; i < modes.length; i++) {
            for (int times = 0; times < 2; times++) {
                // Twice, as an object may hold two frames in turn.
                Films.take("moved", film, moved);
                blockIs(film, 0, new int[] {3, -5, 3, 9});
                blockIs(film, 1, new int[] {3, -5, 3, 20});
            }
            boolean coded = due[i] != 0;
            Bits frame = Films.between().put(coded ? 1 : 0, 1).runs(2).put(modes[i])
                .put(modes[i]);
            Films.take("mode " + due[i], film, coded ? frame.tokens(1) : frame);
            blockIs(film, 0, new int[] {due[i], 0, 0, 0});
            blockIs(film, 1, new int[] {due[i], 0, 0, 0});
        }
        Films.take("moved", film, moved);
        Films.take("moved", film, moved);
        Films.take("not between", film, Films.first(0).tokens(1));
        blockIs(film, 0, new int[] {2, 0, 0, 0});
        blockIs(film, 1, new int[] {2, 0, 0, 0});
    }

    private static void blockIs(Film film, int column, int[] due) {
        for (int what = 0; what < 3; what++) {
            Check.due("block " + column + ", " + what, due[what], film.block(column, 0, what));
        }
        Films.number("block " + column + ", its number", due[3], film, column, 0);
    }

    /** Of every size: the last column and row are there, and none behind them. */
    private static void lastOfEverySize() {
        for (int size = 0; size < 36; size++) {
            int columns = 1 + size % 6;
            int rows = 1 + size / 6;
            Film film = HeaderMaker.of(columns, rows).film();
            Films.take("a picture", film, Films.first(0).numbers(7).tokens(4).put(255, 8));
            String what = columns + " by " + rows;
            Check.due(what + ": the last block", 7, film.block(columns - 1, rows - 1, 3));
            Check.dueThrow(what + ": behind the last column", IndexOutOfBoundsException.class,
                () -> film.block(columns, 0, 0));
            Check.dueThrow(what + ": below the last row", IndexOutOfBoundsException.class,
                () -> film.block(0, rows, 0));
            int last = film.sample(8 * columns - 1, 8 * rows - 1, false);
            Check.due(what + ": the last sample", 128 + Films.level(14), last);
            Check.dueThrow(what + ": right of the last sample", IndexOutOfBoundsException.class,
                () -> film.sample(8 * columns, 0, false));
            Check.dueThrow(what + ": below the last sample", IndexOutOfBoundsException.class,
                () -> film.sample(0, 8 * rows, true));
        }
    }
}
