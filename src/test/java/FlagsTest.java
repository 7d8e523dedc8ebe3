/** Promise 5, FLAGS and MODES: which blocks are coded, in order, and how. */
public final class FlagsTest {
    private static final int[] ORDER = Films.order(6, 6);

    public static void main(String[] args) {
        everyRun();
        runsInTurn();
        tooLongRuns();
        smallPictures();
        modes();
        orderOfEverySize();
        exactlyAllBlocks();
        Check.end();
    }

    private static Film film(int columns, int rows) {
        Film film = HeaderMaker.of(columns, rows)
            .trees(HeaderMaker.leaf(4), HeaderMaker.FULL_TREE).film();
        Films.take("a picture", film, Films.first(0).put(255, 8));
        return film;
    }

    private static void everyRun() {
        Film film = film(6, 6);
        for (int length = 1; length < 36; length++) {
            for (int flag = 0; flag < 2; flag++) {
                Bits frame = Films.between().put(flag, 1).runs(length, 36 - length);
                int coded = flag == 1 ? length : 36 - length;
                frame.put(0, coded).put(255, 8);
                String what = "first " + length + " are " + flag;
                Films.take(what, film, frame);
                for (int i = 0; i < 36; i++) {
                    int due = i < length ? flag : 1 - flag;
                    Check.due(what + ", " + i, due, mode(film, ORDER[i]));
                }
            }
        }
        Films.take("all", film, Films.between().put("1 111 11100").put(0, 36).put(255, 8));
        Check.due("the last one", 1, mode(film, 35));
        Films.take("none", film, Films.between().put("0 111 11100"));
        Check.due("the first one", 0, mode(film, 0));
    }

    private static int mode(Film film, int raster) {
        return film.block(raster % 6, raster / 6, 0);
    }

    private static void runsInTurn() {
        Film film = film(6, 6);
        int[] lengths = {1, 2, 1, 3, 4, 8, 5, 1, 7, 1, 1, 2};
        Bits frame = Films.between().put(1, 1);
        int coded = 0;
        for (int i = 0; i < lengths.length; i++) {
            frame.runs(lengths[i]);
            coded += i % 2 == 0 ? lengths[i] : 0;
        }
        Films.take("many runs", film, frame.put(0, coded).put(255, 8));
        int at = 0;
        for (int i = 0; i < lengths.length; i++) {
            for (int k = 0; k < lengths[i]; k++) {
                Check.due("run " + i, i % 2 == 0 ? 1 : 0, mode(film, ORDER[at]));
                at++;
            }
        }
        Check.due("all blocks", 36, at);
    }

    private static void tooLongRuns() {
        for (int before = 1; before < 36; before++) {
            Film film = film(6, 6);
            for (int length = 36 - before + 1; length <= 39; length++) {
                Bits frame = Films.between().put(0, 1).runs(before, length);
                Bits more = new Bits().put(frame.text()).put(-1, 32);
                more.feedTo(film);
                Check.due(before + " and " + length, 5, film.frame());
                Check.due("taken()", frame.length(), film.taken());
            }
        }
        Films.refuse("37", film(6, 6), Films.between().put("1").runs(37).put(-1, 16), 5, 14);
        Films.refuse("2 of 1", film(1, 1), Films.between().put("1 100").put(-1, 16), 5, 9);
        Films.refuse("39 of 1", film(1, 1), Films.between().put("1").runs(39).put(-1, 9), 5,
            14);
    }

    private static void smallPictures() {
        Film film = film(5, 1);
        Films.take("a row", film,
            Films.between().put("1").runs(2, 2, 1).put("000").put(255, 8));
        int[] due = {1, 1, 0, 0, 1};
        for (int column = 0; column < 5; column++) {
            Check.due("column " + column, due[column], film.block(column, 0, 0));
        }
        film = film(2, 5);
        Films.take("two columns", film, Films.between().put("0").runs(5, 1, 4)
            .put("0").put(255, 8));
        for (int i = 0; i < 10; i++) {
            // In order: 0 1 3 2 4 6 7 5 8 9; the sixth is (0, 3).
            Check.due("block " + i, i == 6 ? 1 : 0, film.block(i % 2, i / 2, 0));
        }
    }

    private static void modes() {
        Film film = film(6, 6);
        String frame = new Bits().put("1").runs(8, 28).text();
        Bits bits = Films.between().put(frame).put("1110").put("0").put("110 00111 0 11111 1")
            .put("10").put("1110").put("110 00000 1 00001 0").put("1111").put("1110").put(255, 8);
        Films.take("modes", film, bits);
        int[][] due = {{3, 0, 0}, {1, 0, 0}, {3, 7, -31}, {2, 0, 0}, {3, 7, -31}, {3, 0, 1},
            {4, 0, 0}, {3, 0, 1}, {0, 0, 0}};
        for (int i = 0; i < due.length; i++) {
            for (int what = 0; what < 3; what++) {
                Check.due("block " + i + ", " + what, due[i][what],
                    film.block(ORDER[i] % 6, ORDER[i] / 6, what));
            }
        }
        // The latest numbers are of this frame alone.
        Films.take("no numbers", film, Films.between().put("1").runs(1).put("111 11011")
            .put("1110").put(255, 8));
        Check.due("mode", 3, film.block(0, 0, 0));
        Check.due("across", 0, film.block(0, 0, 1));
        Check.due("down", 0, film.block(0, 0, 2));
    }

    /** Each block of each picture alone is coded: it is the one that is due in order. */
    private static void orderOfEverySize() {
        for (int size = 0; size < 36; size++) {
            int columns = 1 + size % 6;
            int rows = 1 + size / 6;
            int blocks = columns * rows;
            int[] order = Films.order(columns, rows);
            Film film = film(columns, rows);
            for (int i = 0; i < blocks; i++) {
                Bits frame = Films.between().put(i == 0 ? 1 : 0, 1);
                if (i > 0) {
                    frame.runs(i);
                }
                frame.runs(1);
                if (i < blocks - 1) {
                    frame.runs(blocks - 1 - i);
                }
                String what = columns + " by " + rows + ", number " + i;
                Films.take(what, film, frame.put(0, 1).put(255, 8));
                for (int block = 0; block < blocks; block++) {
                    Check.due(what + ", block " + block, block == order[i] ? 1 : 0,
                        film.block(block % columns, block / columns, 0));
                }
            }
        }
    }

    /** A run to the last block is the last run; one block more is 5 RUN, told behind its bits. */
    private static void exactlyAllBlocks() {
        for (int size = 0; size < 36; size++) {
            int columns = 1 + size % 6;
            int rows = 1 + size / 6;
            int blocks = columns * rows;
            Film film = film(columns, rows);
            String what = columns + " by " + rows;
            Films.take(what + ": all", film,
                Films.between().put("1").runs(blocks).put(0, blocks).put(255, 8));
            Films.take(what + ": none", film, Films.between().put("0").runs(blocks));
            Bits more = Films.between().put("1").runs(blocks + 1);
            Films.refuse(what + ": one more", film, new Bits().put(more.text()).put(-1, 32), 5,
                more.length());
            Bits later = Films.between().put("0");
            for (int i = 1; i < blocks; i++) {
                later.runs(1);
            }
            Films.refuse(what + ": one more in the end", film,
                new Bits().put(later.runs(2).text()).put(0, 32), 5, later.length());
        }
    }
}
