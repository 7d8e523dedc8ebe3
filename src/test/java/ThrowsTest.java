/** A call that throws changes nothing; of several exceptions the one named first is thrown. */
public final class ThrowsTest {
    private static final Class<?> STATE = IllegalStateException.class;
    private static final Class<?> PLACE = IndexOutOfBoundsException.class;
    private static final Class<?> ARGUMENT = IllegalArgumentException.class;

    public static void main(String[] args) {
        withoutHeader();
        withoutPicture();
        withPicture();
        fullTape();
        Check.end();
    }

    private static void allThrow(Film film, int bytes, Class<?> ofHead, Class<?> ofPlace,
            Class<?> ofWhat) {
        Check.dueThrow("end(-1)", ARGUMENT, () -> film.end(-1));
        Check.dueThrow("end, one too many", ARGUMENT, () -> film.end(bytes + 1));
        Check.dueThrow("head(-1)", ofHead, () -> film.head(-1));
        Check.dueThrow("head(5)", ofHead, () -> film.head(5));
        Check.dueThrow("sample(16, 0)", ofPlace, () -> film.sample(16, 0, false));
        Check.dueThrow("sample(0, -1)", ofPlace, () -> film.sample(0, -1, true));
        Check.dueThrow("block(2, 0, 0)", ofPlace, () -> film.block(2, 0, 0));
        Check.dueThrow("block(0, 1, 4)", ofPlace, () -> film.block(0, 1, 4));
        Check.dueThrow("block(0, 0, 4)", ofWhat, () -> film.block(0, 0, 4));
        Check.dueThrow("block(1, 0, -1)", ofWhat, () -> film.block(1, 0, -1));
    }

    private static void withoutHeader() {
        Film film = new Film();
        Bits header = HeaderMaker.of(2, 1).limit(3).bits();
        header.feedTo(film);
        Check.dueThrow("frame()", STATE, () -> film.frame());
        allThrow(film, header.byteLength(), STATE, STATE, STATE);
        Check.due("taken()", 0, film.taken());
        Check.due("frames()", 0, film.frames());
        Check.due("sum()", 0, film.sum());
        Check.due("the header is still on the tape", 0, film.header());
        Check.due("all of it", header.length(), film.taken());
        Check.due("LIMIT", 3, film.head(2));
    }

    private static void withoutPicture() {
        Film film = HeaderMaker.of(2, 1).film();
        int taken = film.taken();
        Bits frame = Films.first(0).numbers(50, 10).tokens(1);
        frame.feedTo(film);
        allThrow(film, frame.byteLength(), ARGUMENT, STATE, STATE);
        Check.due("taken()", taken, film.taken());
        Check.due("the frame is still on the tape", 0, film.frame());
        Check.due("all of it", frame.length(), film.taken());
        Check.due("its number", 60, film.block(1, 0, 3));
    }

    private static void withPicture() {
        Film film = HeaderMaker.of(2, 1).film();
        Films.take("a picture", film, Films.first(0).numbers(50, 10).tokens(1));
        String before = Films.state(film);
        int taken = film.taken();
        Bits frame = Films.between().put("0 0 0 10").numbers(7).tokens(0);
        frame.feedTo(film);
        allThrow(film, frame.byteLength(), ARGUMENT, PLACE, ARGUMENT);
        Check.due("taken()", taken, film.taken());
        Check.due("the state", before.equals(Films.state(film)));
        Check.due("the frame is still on the tape", 0, film.frame());
        Check.due("its number", 7, film.block(1, 0, 3));
        Check.due("frames()", 2, film.frames());
    }

    private static void fullTape() {
        Film film = new Film();
        Bits header = HeaderMaker.of(2, 1).limit(17).bits();
        header.feedTo(film);
        int bytes = header.byteLength();
        while (bytes + 16 <= 6000) {
            bytes += 16;
            Check.due("feed", bytes, film.feed(-1, -1, -1, -1));
        }
        for (int i = 0; i < 3; i++) {
            Check.dueThrow("feed on a full tape", STATE, () -> film.feed(0, 0, 0, 0));
        }
        int size = bytes;
        Check.dueThrow("it has no more bytes", ARGUMENT, () -> film.end(size + 1));
        film.end(size);
        Check.due("taken()", 0, film.taken());
        Check.due("the header is still on the tape", 0, film.header());
        Check.due("LIMIT", 17, film.head(2));
    }
}
