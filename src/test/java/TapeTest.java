/** THE TAPE and 1 END: its very last bit, the fullest tape, and bytes of which none is left. */
public final class TapeTest {
    private static final int MOST_BITS = 8 * 6000;

    public static void main(String[] args) {
        nothing();
        theLastBitIsThere();
        aHeaderToTheLastBit();
        theFullestTape();
        bitsAreOfTheirBytes();
        emptyBehindAnyFault();
        Check.end();
    }

    private static void nothing() {
        Film film = new Film();
        Check.due("header() of nothing", 1, film.header());
        Check.due("it takes none", 0, film.taken());
        HeaderMaker.of(1, 1).bits().feedTo(film);
        film.end(0);
        Check.due("header() of a tape that is cut to nothing", 1, film.header());
        Check.due("it takes none", 0, film.taken());
        film = HeaderMaker.of(1, 1).film();
        Films.first(0).tokens(0).feedTo(film);
        film.end(0);
        Check.due("frame() of a tape that is cut to nothing", 1, film.frame());
        Check.due("it takes none", 0, film.taken());
    }

    /** Of every whole number of bytes: a frame that needs all their bits, and one byte less. */
    private static void theLastBitIsThere() {
        // A frame that is not between has five bits; behind them come tokens of one bit and of two.
        String tree = "0" + HeaderMaker.leaf(7) + "0" + HeaderMaker.leaf(0) + HeaderMaker.leaf(8);
        for (int bytes = 1; bytes <= 8; bytes++) {
            Film film = HeaderMaker.of(1, 1).trees(tree, tree).film();
            Bits frame = Films.first(0).put(0, 8 * bytes - 5 - 2).put("10");
            Films.take(bytes + " bytes", film, frame);
            int less = frame.length() - 8;
            Films.refuse(bytes + " bytes but the last", film, frame.first(less), 1, less);
            frame = Films.first(0).put(0, 8 * bytes - 5 - 1).put("1");
            Films.refuse(bytes + " bytes, one bit too few", film, frame, 1, frame.length());
        }
    }

    private static void aHeaderToTheLastBit() {
        // 219 bits, a tree of 6, and one of 6 and then 7 for each further token.
        String comb = HeaderMaker.leaf(0);
        for (int tokens = 1; tokens <= 8; tokens++) {
            Bits bits = HeaderMaker.of(2, 2).trees(HeaderMaker.leaf(0), comb).bits();
            Film film = bits.feedTo(new Film());
            Check.due("header() of " + bits.length() + " bits", 0, film.header());
            Check.due("taken()", bits.length(), film.taken());
            if (bits.length() % 8 == 0) {
                film = bits.first(bits.length() - 8).feedTo(new Film());
                Check.due("one byte less", 1, film.header());
                Check.due("taken()", bits.length() - 8, film.taken());
            }
            comb = "0" + HeaderMaker.leaf(0) + comb;
        }
    }

    /** 36 blocks with 64 tokens of 22, 1 and 2 bits: as many bits as the tape can have. */
    private static void theFullestTape() {
        String tree = "0".repeat(12) + HeaderMaker.leaf(20) + HeaderMaker.leaf(20)
            + HeaderMaker.leaf(0).repeat(9) + HeaderMaker.leaf(8) + HeaderMaker.leaf(7);
        HeaderMaker maker = HeaderMaker.of(6, 6).trees(tree, tree);
        Film film = maker.film();
        Bits frame = longFrame(16);
        Check.due("it is as long as can be", MOST_BITS, frame.length());
        Films.take("48000 bits", film, frame);
        Check.due("the first number", 101, film.block(0, 0, 3));
        frame = longFrame(17);
        Check.due("it is too long", MOST_BITS + 1, frame.length());
        Films.refuse("48001 bits", withPicture(maker), frame.first(MOST_BITS), 1, MOST_BITS);
        Films.refuse("zeros alone", withPicture(maker),
            new Bits().put("0".repeat(MOST_BITS)), 1, MOST_BITS);
    }

    /** Each block has one number, and ends. */
    private static Film withPicture(HeaderMaker maker) {
        Film film = maker.film();
        Films.take("a picture", film, Films.first(0).put("01".repeat(36)).put("001".repeat(36)));
        return film;
    }

    private static Bits longFrame(int ofTwoBits) {
        int ofTwentyTwo = 2175;
        Bits frame = Films.first(0);
        for (int i = 0; i < ofTwentyTwo; i++) {
            frame.put("0".repeat(12)).put(i % 2 << 9, 10);
        }
        for (int i = ofTwentyTwo; i < 36 * 64; i++) {
            frame.put(i < ofTwentyTwo + ofTwoBits ? "01" : "1");
        }
        return frame;
    }

    /** Each bit of sixteen bytes alone: width and height tell the first six, END all of them. */
    private static void bitsAreOfTheirBytes() {
        for (int bit = 0; bit < 6; bit++) {
            Film film = new Film();
            // The bit, zeros, and two trees of one token each.
            new Bits().put(0, bit).put(1, 1).put("0".repeat(218 - bit)).put("100000 100000")
                .feedTo(film);
            Check.due("bit " + bit, 0, film.header());
            Check.due("width by bit " + bit, 1 + (bit < 3 ? 4 >> bit : 0), film.head(0));
            Check.due("height by bit " + bit, 1 + (bit < 3 ? 0 : 32 >> bit), film.head(1));
        }
        Film film = new Film();
        for (int bytes = 0; bytes <= 16; bytes++) {
            film.feed(0, 0, 0, 0);
            film.end(bytes);
            Check.due("header() of " + bytes + " bytes", 1, film.header());
            Check.due("taken() of " + bytes + " bytes", 8 * bytes, film.taken());
        }
    }

    private static void emptyBehindAnyFault() {
        Film film = HeaderMaker.of(1, 1).film();
        Bits[] headers = {new Bits().put(0, 8), new Bits().put("111 000 00"),
            new Bits().put("0".repeat(320))};
        int[] faults = {1, 2, 3};
        for (int i = 0; i < 3; i++) {
            headers[i].feedTo(film);
            Check.due("header()", faults[i], film.header());
            Check.due("feed() behind header fault " + faults[i], 16, film.feed(0, 0, 0, 0));
            film.end(0);
        }
        film.feed(-1, -1, -1, -1);
        Check.due("frame() between", 4, film.frame());
        Check.due("feed() behind frame fault 4", 16, film.feed(0, 0, 0, 0));
        Check.due("frame() of zeros", 0, film.frame());
        Check.due("feed() behind no fault", 16, film.feed(-1, -1, -1, -1));
        Check.due("frame() with too long a run", 5, film.frame());
        Check.due("feed() behind frame fault 5", 16, film.feed(0, 0, 0, 0));
        film.end(0);
        Films.first(0).tokens(6).put(-1, 32).feedTo(film);
        Check.due("frame() with too many places", 6, film.frame());
        Check.due("feed() behind frame fault 6", 16, film.feed(0, 0, 0, 0));
    }
}
