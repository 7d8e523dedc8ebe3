/** Promise 6: what the header tells. */
public final class HeadTest {
    public static void main(String[] args) {
        String two = "0" + HeaderMaker.leaf(9) + HeaderMaker.leaf(0);
        Film film = HeaderMaker.of(6, 2).limit(31).trees(two, HeaderMaker.leaf(0)).film();
        int[] due = {6, 2, 31, 2, 1};
        for (int what = 0; what < due.length; what++) {
            Check.due("head(" + what + ")", due[what], film.head(what));
        }
        int[] wrong = {-1, 5, 6, Integer.MIN_VALUE, Integer.MAX_VALUE};
        for (int what : wrong) {
            Check.dueThrow("head(" + what + ")", IllegalArgumentException.class,
                () -> film.head(what));
            Film fresh = new Film();
            Check.dueThrow("head(" + what + ") without a header", IllegalStateException.class,
                () -> fresh.head(what));
        }
        HeaderMaker.of(1, 1).bits().feedTo(film);
        Check.due("another header", 0, film.header());
        int[] dueThen = {1, 1, 0, 32, 32};
        for (int what = 0; what < dueThen.length; what++) {
            Check.due("head(" + what + ") of another", dueThen[what], film.head(what));
        }
        Check.end();
    }
}
