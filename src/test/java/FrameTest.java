/** Promise 5: the tape is read as a frame: its beginning, its pictures, its faults. */
public final class FrameTest {
    public static void main(String[] args) {
        noHeader();
        noPicture();
        scales();
        notCodedStays();
        goldenPicture();
        theTapeIsEmptyThen();
        theFirstFaultCounts();
        Check.end();
    }

    private static void noHeader() {
        Film film = new Film();
        film.feed(1, 2, 3, 4);
        Check.dueThrow("frame()", IllegalStateException.class, () -> film.frame());
        Check.due("the tape is as before", 32, film.feed(1, 2, 3, 4));
        HeaderMaker.of(1, 1).bits().first(100).feedTo(film);
        film.end(0);
        Check.due("a header with a fault", 1, film.header());
        Check.dueThrow("frame() behind it", IllegalStateException.class, () -> film.frame());
    }

    private static void noPicture() {
        Film film = HeaderMaker.of(2, 2).film();
        Films.refuse("nothing", film, new Bits(), 1, 0);
        Films.refuse("between", film, new Bits().put("1000 0000"), 4, 1);
        Films.refuse("too short", film, Films.first(7).put("000"), 1, 8);
        Films.take("first", film, Films.first(0).tokens(2).put(1, 2));
        Films.take("between", film, Films.between().put("0 110 00"));
    }

    private static void scales() {
        HeaderMaker maker = HeaderMaker.of(1, 1).steps(10);
        int[] factors = {2, 2, 10, 25, 50, 75, 102, 2};
        int[] scales = {0, 19, 100, 250, 500, 755, 1023, 29};
        System.arraycopy(scales, 0, maker.scales, 0, 8);
        Film film = maker.film();
        for (int scale = 0; scale < 8; scale++) {
            Films.take("scale " + scale, film, Films.first(scale).tokens(9, 0));
            Check.due("sample by scale " + scale, 128 + Films.level(2 * factors[scale]),
                film.sample(3, 5, false));
        }
    }

    private static void notCodedStays() {
        Film film = HeaderMaker.of(2, 1).steps(20).film();
        Films.take("first", film, Films.first(0).tokens(9, 10, 1));
        int left = film.sample(0, 0, false);
        int right = film.sample(8, 0, false);
        Check.due("left", 128 + Films.level(40), left);
        Check.due("right: -2, and a guess of 2", 128, right);
        Films.take("the right one is new", film, Films.between().put("0 0 0 10").tokens(7, 0));
        Check.due("left stays", left, film.sample(7, 7, false));
        Check.due("right", 128 + Films.level(20), film.sample(8, 0, false));
        Films.take("the left one goes on", film, Films.between().put("1 0 0 0").tokens(7, 0));
        Check.due("left, and 1", left + Films.level(20), film.sample(7, 7, false));
        Check.due("right stays", 128 + Films.level(20), film.sample(15, 7, false));
        Films.take("none", film, Films.between().put("0 10 0"));
        Check.due("left stays", left + Films.level(20), film.sample(7, 7, false));
    }

    private static void goldenPicture() {
        Film film = HeaderMaker.of(1, 1).steps(20).film();
        int one = Films.level(20);
        Films.take("first", film, Films.first(0).tokens(7, 0));
        pictures(film, 128 + one, 128 + one);
        Films.take("between", film, Films.between().put("1 0 0").tokens(7, 0));
        pictures(film, 128 + 2 * one, 128 + one);
        Films.take("of golden", film, Films.between().put("1 0 1111").tokens(8, 0));
        pictures(film, 128, 128 + one);
        Films.take("between and kept", film, new Bits().put("1 000 1 1 0 0").tokens(8, 0));
        pictures(film, 128 - one, 128 - one);
        Films.take("between", film, Films.between().put("1 0 10").tokens(7, 0));
        pictures(film, 128 + one, 128 - one);
        Films.take("kept, nothing coded", film, new Bits().put("1 000 1 0 0"));
        pictures(film, 128 + one, 128 + one);
        Films.take("not between and kept", film, new Bits().put("0 000 1").tokens(9, 0));
        int two = Films.level(40);
        pictures(film, 128 + two, 128 + two);
        Films.take("not between, not kept", film, Films.first(0).tokens(10, 0));
        pictures(film, 128 + Films.level(-40), 128 + Films.level(-40));
    }

    private static void pictures(Film film, int previous, int golden) {
        Check.due("previous", previous, film.sample(0, 0, false));
        Check.due("golden", golden, film.sample(0, 0, true));
        Check.due("previous, last", previous, film.sample(7, 7, false));
        Check.due("golden, last", golden, film.sample(7, 7, true));
    }

    private static void theTapeIsEmptyThen() {
        Film film = HeaderMaker.of(1, 1).film();
        Films.first(0).tokens(0).put(-1, 32).put(-1, 32).feedTo(film);
        Check.due("bits that are left do not count", 0, film.frame());
        Check.due("taken()", 10, film.taken());
        Check.dueThrow("the tape is empty", IllegalArgumentException.class, () -> film.end(1));
        Check.due("frame() of an empty tape", 1, film.frame());
    }

    private static void theFirstFaultCounts() {
        Film film = HeaderMaker.of(1, 1).film();
        Films.refuse("FIRST before RUN", film, new Bits().put("1 000 0 1 111 11111"), 4, 1);
        Films.take("first", film, Films.first(0).tokens(0));
        Films.refuse("RUN before END", film, new Bits().put("1 000 0 1 101"), 5, 9);
        Films.refuse("END before RUN", film, new Bits().put("1 000 0 1 11"), 1, 8);
        // Filled up to two bytes: the run needs one bit more than there are.
        Film wide = HeaderMaker.of(6, 6).film();
        Films.take("first", wide, Films.first(0).tokens(4).put(21, 8));
        Films.refuse("END within a run", wide, new Bits().put("1 000 0 1 110 00 111 11"), 1, 16);
        Films.refuse("PLACE at the last bit", film, Films.first(0).tokens(6).put("111111"), 6, 16);
        Films.refuse("END before PLACE", film,
            Films.first(0).tokens(5).put("111").tokens(6).first(16), 1, 16);
    }
}
