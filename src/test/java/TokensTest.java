/** Promise 5, TOKENS: what each of them brings, and where; and 6 PLACE. */
public final class TokensTest {
    private static final int FACTOR = 16;

    public static void main(String[] args) {
        numbers();
        numbersThatEnd();
        passedOver();
        endings();
        endingsGoOnAtTheNextPlace();
        nothingIsLeftToEnd();
        places();
        beyondTheLastPlace();
        treesByPlace();
        firstTreeForPlaceZeroAlone();
        treesOfOneToken();
        deepestTokens();
        Check.end();
    }

    private static Film film() {
        return HeaderMaker.of(1, 1).steps(FACTOR).film();
    }

    /** Comes to a place by tokens that bring no number. */
    private static Bits at(int place) {
        Bits frame = Films.first(0);
        int left = place;
        while (left > 72) {
            left -= 8;
            frame.tokens(5).put(7, 3);
        }
        if (left >= 9) {
            frame.tokens(6).put(left - 9, 6);
        } else if (left > 0) {
            frame.tokens(5).put(left - 1, 3);
        }
        return frame;
    }

    /** Reads a token and its bits at a place; a number, if it is not 0, is due at another. */
    private static void brings(int from, int token, String bits, int place, int number) {
        boolean ends = token >= 30 || place >= 63 && number != 0 || place >= 64;
        Film film = film();
        Bits frame = at(from).tokens(token).put(bits);
        String what = "token " + token + " " + bits + " at " + from;
        Films.take(what, film, ends ? frame : frame.tokens(0));
        for (int i = 0; i < 64; i++) {
            int x = i % 8;
            int y = i / 8;
            int added = number == 0 ? 0 : Waves.alone(place, number * FACTOR, x, y);
            Check.due(what + ": sample " + x + ", " + y, Films.inByte(128 + added),
                film.sample(x, y, false));
        }
        Check.due(what + ": number at place 0", place == 0 ? number : 0, film.block(0, 0, 3));
    }

    private static void numbers() {
        int[] places = {0, 1, 2, 8, 37, 63};
        for (int place : places) {
            int[] plain = {1, -1, 2, -2};
            for (int i = 0; i < 4; i++) {
                brings(place, 7 + i, "", place, plain[i]);
            }
            int[] least = {3, 4, 5, 6, 7, 9, 13, 21, 37, 101};
            int[] bits = {0, 0, 0, 0, 1, 2, 3, 4, 6, 9};
            for (int i = 0; i < least.length; i++) {
                int most = (1 << bits[i]) - 1;
                int[] more = {0, most, most / 3};
                for (int value : more) {
                    String tail = new Bits().put(value, bits[i]).text();
                    brings(place, 11 + i, "0" + tail, place, least[i] + value);
                    brings(place, 11 + i, "1" + tail, place, -least[i] - value);
                }
            }
        }
    }

    private static void numbersThatEnd() {
        int[] places = {0, 5, 63};
        for (int place : places) {
            brings(place, 30, "", place, 1);
            brings(place, 31, "", place, -1);
        }
    }

    private static void passedOver() {
        for (int from = 0; from < 40; from += 13) {
            for (int i = 0; i < 8; i++) {
                brings(from, 5, new Bits().put(i, 3).text(), 0, 0);
            }
            for (int i = 1; i <= 5; i++) {
                brings(from, 20 + i, "0", from + i, 1);
                brings(from, 20 + i, "1", from + i, -1);
            }
            for (int i = 0; i < 4; i++) {
                brings(from, 26, "0" + new Bits().put(i, 2).text(), from + 6 + i, 1);
                brings(from, 26, "1" + new Bits().put(i, 2).text(), from + 6 + i, -1);
            }
            for (int i = 0; i < 8; i++) {
                brings(from, 27, "0" + new Bits().put(i, 3).text(), from + 10 + i, 1);
                brings(from, 27, "1" + new Bits().put(i, 3).text(), from + 10 + i, -1);
            }
            brings(from, 28, "00", from + 1, 2);
            brings(from, 28, "01", from + 1, 3);
            brings(from, 28, "10", from + 1, -2);
            brings(from, 28, "11", from + 1, -3);
            for (int i = 0; i < 8; i++) {
                int size = 2 + (i >> 1 & 1);
                brings(from, 29, new Bits().put(i, 3).text(), from + 2 + (i & 1),
                    i < 4 ? size : -size);
            }
        }
    }

    /** All blocks stand at place 0; each that is not ended by another one ends by token 0. */
    private static void endings() {
        int[] least = {0, 1, 2, 6, 14};
        int[] bits = {0, 0, 2, 3, 8};
        for (int token = 0; token < 5; token++) {
            for (int more = 0; more < 1 << bits[token]; more++) {
                Film film = HeaderMaker.of(6, 6).film();
                Bits frame = Films.first(0).tokens(token).put(more, bits[token]);
                for (int i = 1 + least[token] + more; i < 36; i++) {
                    frame.tokens(0);
                }
                Films.take("token " + token + " and " + more, film, frame);
            }
        }
    }

    private static void endingsGoOnAtTheNextPlace() {
        Film film = HeaderMaker.of(3, 1).steps(FACTOR).film();
        // Two numbers, the third block ends, and of the two that are left one more.
        Films.take("1 more", film, Films.first(0).tokens(9, 10, 1, 30));
        Check.due("the first has no number at place 1", film.sample(0, 0, false),
            film.sample(7, 7, false));
        Check.due("the second has one", film.sample(8, 0, false) != film.sample(15, 0, false));
        // The first passes over place 1: the second one ends there, the first one then at 2.
        Films.take("2 more", film, Films.first(0).tokens(5).put(0, 3).tokens(7, 2).put(0, 2));
        Films.take("1 more, and not the next one", film,
            Films.first(0).tokens(5).put(1, 3).tokens(7, 1, 9, 0));
        // One is to end at place 1, where no block stands but the first, that ends at place 5.
        Films.take("1 more, four places further", film,
            Films.first(0).tokens(5).put(4, 3).tokens(0, 1));
    }

    private static void nothingIsLeftToEnd() {
        Film film = HeaderMaker.of(1, 1).steps(FACTOR).film();
        Films.take("269 more are to end", film, Films.first(0).tokens(4).put(255, 8));
        Films.take("not in the next frame", film, Films.first(0).tokens(9, 0));
        Check.due("its number", 2, film.block(0, 0, 3));
    }

    private static void places() {
        Film film = film();
        Bits all = Films.first(0);
        for (int place = 0; place < 64; place++) {
            all.tokens(7);
        }
        Films.take("64 numbers, and no more", film, all);
        Films.take("passes to 64", film, at(56).tokens(5).put(7, 3));
        Films.take("passes to 64 at once", film, Films.first(0).tokens(6).put(55, 6));
        Films.take("passes 1 at 63", film, at(63).tokens(5).put(0, 3));
        Films.take("a number at 63", film, at(58).tokens(25).put("1"));
        brings(57, 26, "000", 63, 1);
        brings(53, 27, "1000", 63, -1);
        brings(62, 28, "11", 63, -3);
        brings(60, 29, "011", 63, 3);
        brings(61, 29, "010", 63, 3);
    }

    private static void beyondTheLastPlace() {
        Film film = film();
        Films.take("a picture", film, at(63).tokens(7));
        beyond(film, 57, 5, "111");
        beyond(film, 63, 5, "001");
        beyond(film, 0, 6, "111000");
        beyond(film, 0, 6, "111111");
        beyond(film, 55, 6, "000001");
        for (int token = 21; token <= 25; token++) {
            beyond(film, 64 - (token - 20), token, "0");
            beyond(film, 63, token, "1");
        }
        beyond(film, 58, 26, "000");
        beyond(film, 55, 26, "111");
        beyond(film, 54, 27, "0000");
        beyond(film, 47, 27, "1111");
        beyond(film, 63, 28, "00");
        beyond(film, 62, 29, "000");
        beyond(film, 61, 29, "101");
        beyond(film, 63, 29, "111");
    }

    private static void beyond(Film film, int from, int token, String bits) {
        Bits frame = at(from).tokens(token).put(bits);
        Films.refuse("token " + token + " " + bits + " at " + from, film,
            new Bits().put(frame.text()).put(0, 32), 6, frame.length());
        // Told behind all of its bits: END, if one is missing.
        int whole = frame.length() / 8 * 8;
        if (whole > frame.length() - bits.length()) {
            Films.refuse("token " + token + " cut", film, frame.first(whole),
                whole == frame.length() ? 6 : 1, whole);
        }
    }

    private static void treesByPlace() {
        String first = "0" + HeaderMaker.leaf(5) + HeaderMaker.leaf(9);
        String further = "0" + HeaderMaker.leaf(30) + "0" + HeaderMaker.leaf(0)
            + HeaderMaker.leaf(8);
        Film film = HeaderMaker.of(2, 1).trees(first, further).steps(FACTOR).film();
        // Place 0: 5 and 8 places for the one, 2 for the other; then -1, end; at 8: 1 and end.
        Films.take("two trees", film, Films.first(0).put("0 111 1 11 10 0"));
        Check.due("the first", 0, film.block(0, 0, 3));
        Check.due("the second", 2, film.block(1, 0, 3));
        Check.due("1 at place 8", 128 + Waves.alone(8, FACTOR, 2, 6), film.sample(2, 6, false));
    }

    private static void deepestTokens() {
        String zeros = "0".repeat(12) + HeaderMaker.leaf(7) + HeaderMaker.leaf(9)
            + HeaderMaker.leaf(0).repeat(11);
        String ones = ("0" + HeaderMaker.leaf(0)).repeat(11) + "0" + HeaderMaker.leaf(8)
            + HeaderMaker.leaf(10);
        Film film = HeaderMaker.of(2, 1).trees(zeros, ones).steps(FACTOR).film();
        Films.take("twelve bits for a token", film, Films.first(0).put("0".repeat(12))
            .put("0".repeat(11)).put("1").put("1".repeat(12)).put("1".repeat(11)).put("0 0 0"));
        Check.due("by 12 bits 0", 1, film.block(0, 0, 3));
        Check.due("by 11 bits 0 and a bit 1", 3, film.block(1, 0, 3));
        int[] products = new int[64];
        products[0] = FACTOR;
        products[1] = -2 * FACTOR;
        for (int x = 0; x < 8; x++) {
            Check.due("by 12 bits 1", 128 + Waves.added(products, x, 0), film.sample(x, 0, false));
        }
    }

    private static void treesOfOneToken() {
        Film film = HeaderMaker.of(6, 6).trees(HeaderMaker.leaf(7), HeaderMaker.leaf(0))
            .film();
        Films.take("no bits at all for tokens", film, Films.first(0));
        Check.due("it has them still", 1, film.block(0, 0, 3));
        film = HeaderMaker.of(6, 6).trees(HeaderMaker.leaf(7), HeaderMaker.leaf(8)).film();
        Films.take("64 numbers of no bits", film, Films.first(0));
        film = HeaderMaker.of(2, 1).trees(HeaderMaker.leaf(18), HeaderMaker.leaf(31)).film();
        Films.take("only what is behind the token", film, Films.first(0).put("00010 10011"));
        Check.due("the first", 23, film.block(0, 0, 3));
        Check.due("the second", 23 - 24, film.block(1, 0, 3));
    }

    /** The first tree takes no bits, the other one a bit for each token: at places 1 to 63. */
    private static void firstTreeForPlaceZeroAlone() {
        String two = "0" + HeaderMaker.leaf(0) + HeaderMaker.leaf(7);
        for (int blocks = 1; blocks <= 6; blocks += 5) {
            Film film = HeaderMaker.of(blocks, 1).trees(HeaderMaker.leaf(7), two).film();
            for (int places = 1; places < 64; places++) {
                Bits frame = Films.first(0).put("1".repeat(blocks * (places - 1)));
                Films.take(places + " numbers each", film, frame.put("0".repeat(blocks)));
            }
            Films.take("64 numbers each", film, Films.first(0).put("1".repeat(blocks * 63)));
        }
    }
}
