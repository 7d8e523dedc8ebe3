/** Promise 1: an empty tape, no header. */
public final class NewObjectTest {
    public static void main(String[] args) {
        Film film = new Film();
        Check.due("taken()", 0, film.taken());
        Check.due("frames()", 0, film.frames());
        Check.due("sum()", 0, film.sum());
        Check.dueThrow("frame()", IllegalStateException.class, () -> film.frame());
        Check.dueThrow("head(0)", IllegalStateException.class, () -> film.head(0));
        Check.dueThrow("head(9)", IllegalStateException.class, () -> film.head(9));
        Check.dueThrow("sample", IllegalStateException.class, () -> film.sample(0, 0, false));
        Check.dueThrow("golden sample", IllegalStateException.class,
            () -> film.sample(0, 0, true));
        Check.dueThrow("block", IllegalStateException.class, () -> film.block(0, 0, 0));
        film.end(0);
        Check.dueThrow("end(1)", IllegalArgumentException.class, () -> film.end(1));
        Check.due("header() of an empty tape", 1, film.header());
        Check.due("taken() behind it", 0, film.taken());
        Check.dueThrow("frame() without a header still", IllegalStateException.class,
            () -> film.frame());
        Check.due("feed", 16, film.feed(0, 0, 0, 0));
        anotherObject();
        Check.end();
    }

    private static void anotherObject() {
        Film one = HeaderMaker.of(2, 3).film();
        Film other = new Film();
        Check.due("the one has its header", 3, one.head(1));
        Check.dueThrow("the other has none", IllegalStateException.class, () -> other.head(1));
    }
}
