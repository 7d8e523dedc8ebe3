/** Promise 10: how many bits the latest header or frame took. */
public final class TakenTest {
    public static void main(String[] args) {
        Film film = new Film();
        Bits header = HeaderMaker.of(2, 1).bits();
        header.feedTo(film);
        Check.due("taken() before it is read", 0, film.taken());
        film.header();
        int length = header.length();
        Check.due("of a header", length, film.taken());
        film.feed(0, 0, 0, 0);
        Check.due("behind feed", length, film.taken());
        film.end(0);
        Check.due("behind end", length, film.taken());
        Check.due("frame() of an empty tape", 1, film.frame());
        Check.due("of an empty tape", 0, film.taken());
        Films.first(0).tokens(15).feedTo(film);
        Check.due("frame() that ends in a number", 1, film.frame());
        Check.due("all 16 bits that were there", 16, film.taken());
        Films.first(0).tokens(1).put(-1, 32).feedTo(film);
        Check.due("frame() with bits left", 0, film.frame());
        Check.due("without those left", 10, film.taken());
        film.sample(0, 0, true);
        film.block(0, 0, 0);
        film.sum();
        film.head(0);
        film.frames();
        Check.due("behind calls that tell", 10, film.taken());
        callsThatThrow(film);
        Check.due("behind calls that throw", 10, film.taken());
        new Bits().put("111 111 11").feedTo(film);
        film.header();
        Check.due("of a header with a fault", 6, film.taken());
        everyEnd();
        Check.end();
    }

    private static void callsThatThrow(Film film) {
        Check.dueThrow("head", IllegalArgumentException.class, () -> film.head(5));
        Check.dueThrow("end", IllegalArgumentException.class, () -> film.end(17));
        Check.dueThrow("sample", IndexOutOfBoundsException.class, () -> film.sample(16, 0, false));
        Film fresh = new Film();
        new Bits().put(0, 8).feedTo(fresh);
        fresh.header();
        fresh.feed(0, 0, 0, 0);
        Check.dueThrow("frame", IllegalStateException.class, () -> fresh.frame());
        Check.due("taken() behind frame() that throws", 8, fresh.taken());
        fresh.end(16);
    }

    /** A frame of many parts, cut behind each byte: END, and all that was there is taken. */
    private static void everyEnd() {
        Film film = HeaderMaker.of(2, 2).film();
        Films.take("a picture", film, Films.first(0).tokens(3).put(0, 3));
        Bits frame = Films.between().put("1 110 00").put("110").put(9, 5).put(1, 1).put(3, 5)
            .put("0 1110 1111 10").tokens(20).put(1, 1).put(77, 9).tokens(29).put("1 0 1")
            .tokens(26).put("0 11").tokens(3).put(2, 3);
        String before = Films.state(film);
        for (int bytes = 0; bytes < frame.byteLength(); bytes++) {
            frame.feedTo(film);
            film.end(bytes);
            Check.due("frame() of " + bytes + " bytes", 1, film.frame());
            Check.due("taken() of " + bytes + " bytes", 8 * bytes, film.taken());
            Check.due("nothing is changed", before.equals(Films.state(film)));
        }
        Films.take("all of it", film, frame);
    }
}
