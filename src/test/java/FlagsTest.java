/** Promise 5, FLAGS and MODES: which blocks are coded, in order, and how. */
public final class FlagsTest {
    /** The order of six by six blocks, in raster from 0. */
    private static final int[] ORDER = {
        0, 1, 7, 6, 12, 18, 19, 13, 14, 20, 21, 15, 9, 8, 2, 3,
        4, 5, 11, 10, 16, 22, 23, 17,
        24, 25, 31, 30, 33, 32, 26, 27,
        28, 29, 35, 34};

    public static void main(String[] args) {
        everyRun();
        runsInTurn();
        tooLongRuns();
        smallPictures();
        modes();
        Check.end();
    }

    private static FilmBlocks film(int columns, int rows) {
        FilmBlocks film = HeaderMaker.of(columns, rows)
            .trees(HeaderMaker.leaf(4), HeaderMaker.FULL_TREE).film();
        Films.take("a picture", film, Films.first(0).put(255, 8));
        return film;
    }

    static String run(int length) {
        if (length == 1) {
            return "0";
        }
        if (length < 4) {
            return new Bits().put("10").put(length - 2, 1).text();
        }
        if (length < 8) {
            return new Bits().put("110").put(length - 4, 2).text();
        }
        return new Bits().put("111").put(length - 8, 5).text();
    }

    private static void everyRun() {
        FilmBlocks film = film(6, 6);
        for (int length = 1; length < 36; length++) {
            for (int flag = 0; flag < 2; flag++) {
                Bits frame = Films.between().put(flag, 1).put(run(length)).put(run(36 - length));
                int coded = flag == 1 ? length : 36 - length;
                frame.put(0, coded).put(255, 8);
                String what = "first " + length + " are " + flag;
                Films.take(what, film, frame);
                for (int i = 0; i < 36; i++) {
                    int due = i < length ? flag : 1 - flag;
                    Check.due(what + ", " + i, due, mode(film, ORDER[i]));
                }
            }
        }
        Films.take("all", film, Films.between().put("1 111 11100").put(0, 36).put(255, 8));
        Check.due("the last one", 1, mode(film, 35));
        Films.take("none", film, Films.between().put("0 111 11100"));
        Check.due("the first one", 0, mode(film, 0));
    }

    private static int mode(FilmBlocks film, int raster) {
        return film.block(raster % 6, raster / 6, 0);
    }

    private static void runsInTurn() {
        FilmBlocks film = film(6, 6);
        int[] lengths = {1, 2, 1, 3, 4, 8, 5, 1, 7, 1, 1, 2};
        Bits frame = Films.between().put(1, 1);
        int coded = 0;
        for (int i = 0; i < lengths.length; i++) {
            frame.put(run(lengths[i]));
            coded += i % 2 == 0 ? lengths[i] : 0;
        }
        Films.take("many runs", film, frame.put(0, coded).put(255, 8));
        int at = 0;
        for (int i = 0; i < lengths.length; i++) {
            for (int k = 0; k < lengths[i]; k++) {
                Check.due("run " + i, i % 2 == 0 ? 1 : 0, mode(film, ORDER[at]));
                at++;
            }
        }
        Check.due("all blocks", 36, at);
    }

    private static void tooLongRuns() {
        FilmBlocks film = film(6, 6);
        for (int before = 1; before < 36; before++) {
            for (int length = 36 - before + 1; length <= 39; length++) {
                Bits frame = Films.between().put(0, 1).put(run(before)).put(run(length));
                Bits more = new Bits().put(frame.text()).put(-1, 32);
                more.feedTo(film);
                Check.due(before + " and " + length, 5, film.frame());
                Check.due("taken()", frame.length(), film.taken());
            }
        }
        Films.refuse("37", film, Films.between().put("1").put(run(37)).put(-1, 16), 5, 14);
        Films.refuse("2 of 1", film(1, 1), Films.between().put("1 100").put(-1, 16), 5, 9);
        Films.refuse("39 of 1", film(1, 1), Films.between().put("1").put(run(39)).put(-1, 9), 5,
            14);
    }

    private static void smallPictures() {
        FilmBlocks film = film(5, 1);
        Films.take("a row", film,
            Films.between().put("1").put(run(2)).put(run(2)).put(run(1)).put("000").put(255, 8));
        int[] due = {1, 1, 0, 0, 1};
        for (int column = 0; column < 5; column++) {
            Check.due("column " + column, due[column], film.block(column, 0, 0));
        }
        film = film(2, 5);
        Films.take("two columns", film, Films.between().put("0").put(run(5)).put(run(1))
            .put(run(4)).put("0").put(255, 8));
        for (int i = 0; i < 10; i++) {
            // In order: 0 1 3 2 4 6 7 5 8 9; the sixth is (0, 3).
            Check.due("block " + i, i == 6 ? 1 : 0, film.block(i % 2, i / 2, 0));
        }
    }

    private static void modes() {
        FilmBlocks film = film(6, 6);
        String frame = "1" + run(8) + run(28);
        Bits bits = Films.between().put(frame).put("1110").put("0").put("110 00111 0 11111 1")
            .put("10").put("1110").put("110 00000 1 00001 0").put("1111").put("1110").put(255, 8);
        Films.take("modes", film, bits);
        int[][] due = {{3, 0, 0}, {1, 0, 0}, {3, 7, -31}, {2, 0, 0}, {3, 7, -31}, {3, 0, 1},
            {4, 0, 0}, {3, 0, 1}, {0, 0, 0}};
        for (int i = 0; i < due.length; i++) {
            for (int what = 0; what < 3; what++) {
                Check.due("block " + i + ", " + what, due[i][what],
                    film.block(ORDER[i] % 6, ORDER[i] / 6, what));
            }
        }
        // The latest numbers are of this frame alone.
        Films.take("no numbers", film, Films.between().put("1").put(run(1)).put("111 11011")
            .put("1110").put(255, 8));
        Check.due("mode", 3, film.block(0, 0, 0));
        Check.due("across", 0, film.block(0, 0, 1));
        Check.due("down", 0, film.block(0, 0, 2));
    }
}
