/** An object answers 512 calls: as many headers and frames one behind the other as they can be. */
public final class LongUseTest {
    private static final int CALLS = 512;

    private static int calls = 0;

    public static void main(String[] args) {
        FilmBlocks film = new FilmBlocks();
        for (int round = 0; round < 32; round++) {
            round(film, round);
        }
        Check.due("calls", CALLS, calls);
        FilmBlocks other = HeaderMaker.of(4, 4).limit(2).film();
        for (int i = 2; i < CALLS; i += 2) {
            // Sixteen blocks: not coded, but in every eighth frame.
            Bits frame = i % 8 == 2 ? Films.first(i % 3).numbers(i).tokens(4).put(255, 8)
                : Films.between().put("0").runs(16);
            words(other, frame);
            Check.due("frame " + i, 0, other.frame());
        }
        Check.due("frames()", CALLS / 2 - 1, other.frames());
        Check.end();
    }

    /** 16 calls. A full tree has 32 tokens, however many trees were read before it. */
    private static void round(FilmBlocks film, int round) {
        String what = "round " + round + ": ";
        HeaderMaker maker = HeaderMaker.of(1 + round % 6, 1 + round / 6).limit(round);
        maker.bits().feedTo(film);
        Check.due(what + "header()", 0, film.header());
        calls += 8;
        Check.due(what + "head(2)", round, film.head(2));
        Check.due(what + "head(3)", 32, film.head(3));
        Check.due(what + "head(4)", 32, film.head(4));
        calls += 3;
        Films.first(0).numbers(1 + round).tokens(4).put(255, 8).feedTo(film);
        Check.due(what + "frame()", 0, film.frame());
        calls += 3;
        Check.due(what + "its number", 1 + round, film.block(0, 0, 3));
        Check.due(what + "sample", 128 + Films.level(2 * (1 + round)), film.sample(0, 0, true));
        calls += 2;
    }

    /** One call: all of it is in the first sixteen bytes. */
    private static void words(FilmBlocks film, Bits frame) {
        int word = Integer.parseUnsignedInt((frame.text() + "0".repeat(32)).substring(0, 32), 2);
        Check.due("feed", 16, film.feed(word, 0, 0, 0));
    }
}
