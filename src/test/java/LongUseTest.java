/** An object answers 512 calls: as many headers and frames one behind the other as they can be. */
public final class LongUseTest {
    private static final int CALLS = 512;

    public static void main(String[] args) {
        headersAndFrames();
        framesAlone();
        asksAlone();
        Check.end();
    }

    private static void headersAndFrames() {
        Film film = new Film();
        for (int i = 0; i < 32; i++) {
            round(film, i);
        }
        isUsedUp(film);
    }

    /** 16 calls. A full tree has 32 tokens, however many trees were read before it. */
    private static void round(Film film, int round) {
        String what = "round " + round + ": ";
        HeaderMaker maker = HeaderMaker.of(1 + round % 6, 1 + round / 6).limit(round);
        maker.bits().feedTo(film);
        Check.due(what + "header()", 0, film.header());
        Check.due(what + "head(2)", round, film.head(2));
        Check.due(what + "head(3)", 32, film.head(3));
        Check.due(what + "head(4)", 32, film.head(4));
        Films.first(0).numbers(1 + round).tokens(4).put(255, 8).feedTo(film);
        Check.due(what + "frame()", 0, film.frame());
        Check.due(what + "its number", 1 + round, film.block(0, 0, 3));
        Check.due(what + "sample", 128 + Films.level(2 * (1 + round)), film.sample(0, 0, true));
    }

    /** Two calls a frame, behind the eight that the header takes; the last two ask. */
    private static void framesAlone() {
        Film film = HeaderMaker.of(4, 4).limit(2).film();
        Check.due("calls of a header", 8, film.calls());
        int frames = (CALLS - 8 - 2) / 2;
        for (int i = 1; i <= frames; i++) {
            // Sixteen blocks: not coded, but in every fourth frame.
            Bits frame = i % 4 == 1 ? Films.first(i % 3).numbers(i).tokens(4).put(128, 8)
                : Films.between().put("0").runs(16);
            feedOnce(film, frame);
            Check.due("frame " + i, 0, film.frame());
        }
        Check.due("frames()", frames, film.frames());
        Check.due("the latest number is taken over", 128 + Films.level(2 * 249),
            film.sample(31, 31, false));
        isUsedUp(film);
    }

    /** One call: all of it, but bits 0 in the end, is in the first four bytes of sixteen. */
    private static void feedOnce(Film film, Bits frame) {
        int word = Integer.parseUnsignedInt((frame.text() + "0".repeat(32)).substring(0, 32), 2);
        Check.due("feed", 16, film.feed(word, 0, 0, 0));
    }

    private static void asksAlone() {
        Film film = new Film();
        for (int i = 0; i < CALLS / 2; i++) {
            Check.due("sum()", 0, film.sum());
            Check.dueThrow("frame()", IllegalStateException.class, () -> film.frame());
        }
        isUsedUp(film);
    }

    private static void isUsedUp(Film film) {
        Check.due("calls of the object", CALLS, film.calls());
        Check.due("it is the first one", 1, film.objects());
    }
}
