/** Promise 3: the tape is cut behind its first n bytes. */
public final class EndTest {
    public static void main(String[] args) {
        wrongLengths();
        cutsCount();
        Check.end();
    }

    private static void wrongLengths() {
        Film film = new Film();
        film.feed(1, 2, 3, 4);
        film.feed(1, 2, 3, 4);
        int[] wrong = {-1, 33, 34, 6000, Integer.MIN_VALUE, Integer.MAX_VALUE};
        for (int n : wrong) {
            Check.dueThrow("end(" + n + ")", IllegalArgumentException.class, () -> film.end(n));
        }
        Check.due("it is as long as before", 48, film.feed(1, 2, 3, 4));
        film.end(48);
        Check.due("nothing is cut off", 64, film.feed(1, 2, 3, 4));
        film.end(5);
        Check.dueThrow("end(6) behind end(5)", IllegalArgumentException.class, () -> film.end(6));
        Check.due("feed behind end(5)", 21, film.feed(1, 2, 3, 4));
        film.end(0);
        Check.dueThrow("end(1) behind end(0)", IllegalArgumentException.class, () -> film.end(1));
    }

    private static void cutsCount() {
        Bits bits = HeaderMaker.of(1, 1).bits();
        int need = bits.byteLength();
        for (int n = 0; n <= need; n++) {
            Film film = new Film();
            bits.feedTo(film);
            film.end(n);
            Check.due("header() of " + n + " bytes", n < need ? 1 : 0, film.header());
            Check.due("taken() of " + n + " bytes", Math.min(8 * n, bits.length()), film.taken());
        }
    }
}
