/** Promise 2: sixteen bytes come behind the tape, and at most 6000 are on it. */
public final class FeedTest {
    public static void main(String[] args) {
        untilItIsFull();
        behindACut();
        highestByteFirst();
        Check.end();
    }

    private static void untilItIsFull() {
        Film film = new Film();
        for (int i = 1; i <= 375; i++) {
            Check.due("feed " + i, 16 * i, film.feed(i, -i, 7 * i, Integer.MIN_VALUE));
        }
        Check.dueThrow("feed beyond 6000", IllegalStateException.class,
            () -> film.feed(1, 2, 3, 4));
        Check.dueThrow("end(6001)", IllegalArgumentException.class, () -> film.end(6001));
        film.end(6000);
        film.end(5985);
        Check.dueThrow("feed beyond 6000 by one byte", IllegalStateException.class,
            () -> film.feed(1, 2, 3, 4));
        film.end(5985);
        film.end(5984);
        Check.due("feed up to 6000", 6000, film.feed(1, 2, 3, 4));
        // Bit 219 is a 0, and a token of six bits follows: the twelfth 0 behind it is too much.
        Check.due("a header is read from its beginning", 3, film.header());
        Check.due("taken()", 219 + 1 + 6 + 12, film.taken());
        Check.due("it is empty then", 16, film.feed(0, 0, 0, 0));
    }

    private static void behindACut() {
        Film film = new Film();
        film.feed(-1, -1, -1, -1);
        film.end(3);
        Check.due("feed behind 3 bytes", 19, film.feed(0, 0, 0, 0));
        Bits bits = HeaderMaker.of(5, 4).limit(9).bits();
        Film other = new Film();
        other.feed(-1, -1, -1, -1);
        other.end(0);
        bits.feedTo(other);
        Check.due("nothing is left of what was cut off", 0, other.header());
        Check.due("width", 5, other.head(0));
    }

    /** A header of which every byte is another one lies in the numbers as the document tells. */
    private static void highestByteFirst() {
        Film film = new Film();
        // 011 010 00101 and zeros; the trees 1 00000 and 1 00000 begin at bit 219.
        film.feed(0x68A00000, 0, 0, 0);
        film.feed(0, 0, 0x00000010, 0x40000000);
        Check.due("header()", 0, film.header());
        Check.due("width", 4, film.head(0));
        Check.due("height", 3, film.head(1));
        Check.due("LIMIT", 5, film.head(2));
        Check.due("taken()", 231, film.taken());
    }
}
