/** Promise 4: the tape is read as a header. */
public final class HeaderTest {
    public static void main(String[] args) {
        sizes();
        treesOfManyForms();
        tooDeep();
        tooManyTokens();
        faultsChangeNothing();
        successDropsThePicture();
        theFirstFaultCounts();
        everyFieldStandsWhereItShould();
        treeFaultsAtTheLastBit();
        thirtyTwoTokensInAnyForm();
        Check.end();
    }

    private static void sizes() {
        for (int columns = 1; columns <= 8; columns++) {
            for (int rows = 1; rows <= 8; rows++) {
                Film film = new Film();
                Bits bits = HeaderMaker.of(columns, rows).bits();
                bits.feedTo(film);
                boolean small = columns <= 6 && rows <= 6;
                String what = columns + " by " + rows;
                Check.due(what, small ? 0 : 2, film.header());
                Check.due(what + ": taken()", small ? bits.length() : 6, film.taken());
                Check.dueThrow(what + ": the tape is empty", IllegalArgumentException.class,
                    () -> film.end(1));
                if (small) {
                    Check.due(what + ": width", columns, film.head(0));
                    Check.due(what + ": height", rows, film.head(1));
                } else {
                    Check.dueThrow(what + ": head", IllegalStateException.class,
                        () -> film.head(0));
                }
            }
        }
    }

    private static void treesOfManyForms() {
        String leaf = HeaderMaker.leaf(7);
        counts("leaf and full", leaf, 1, HeaderMaker.FULL_TREE, 32);
        counts("full and leaf", HeaderMaker.FULL_TREE, 32, leaf, 1);
        counts("two alike", "0" + leaf + leaf, 2, "0" + leaf + "0" + leaf + leaf, 3);
        counts("deepest below 0", "0".repeat(12) + leaf.repeat(13), 13, leaf, 1);
        counts("deepest below 1", leaf, 1, ("0" + leaf).repeat(12) + leaf, 13);
        counts("widest and deepest", widestAndDeepest(), 32, widestAndDeepest(), 32);
    }

    /** 7 + 16 + 4 + 2 + 1 + 2 tokens, with twelve bits 0 above some early and some late ones. */
    private static String widestAndDeepest() {
        String leaf = HeaderMaker.leaf(1);
        return ("0" + leaf).repeat(7) + "0" + full(4) + "0" + full(2) + "0" + full(1)
            + "0" + leaf + "0" + leaf + leaf;
    }

    private static String full(int depth) {
        return depth == 0 ? HeaderMaker.leaf(5) : "0" + full(depth - 1) + full(depth - 1);
    }

    private static void counts(String what, String first, int firstCount, String further,
            int furtherCount) {
        Film film = HeaderMaker.of(1, 1).trees(first, further).film();
        Check.due(what + ": first tree", firstCount, film.head(3));
        Check.due(what + ": other tree", furtherCount, film.head(4));
    }

    private static void tooDeep() {
        String leaf = HeaderMaker.leaf(7);
        faulty("13 bits 0", "0".repeat(13), leaf, 3, 13);
        faulty("14 bits 0", "0".repeat(14), leaf, 3, 13);
        faulty("13 bits 0 in the other tree", leaf, "0".repeat(13), 3, 6 + 13);
        String chain = ("0" + leaf).repeat(12);
        faulty("13 bits 0 below bits 1", chain + "0" + leaf + leaf, leaf, 3, chain.length() + 1);
        // The deepest level may be left and come to again.
        String comb = "0".repeat(12) + leaf + leaf;
        faulty("too deep behind deepest tokens", comb + "00", leaf, 3, comb.length() + 2);
    }

    private static void tooManyTokens() {
        String leaf = HeaderMaker.leaf(3);
        String wide = "0" + full(4) + "0" + full(3) + "0" + full(2);
        String rest = "0" + full(1) + "0" + leaf;
        // 16 + 8 + 4 + 2 + 1 tokens, the 32nd, and a 33rd.
        faulty("33 tokens", wide + rest + "0" + leaf + "1", leaf, 3,
            wide.length() + rest.length() + 1 + 6 + 1);
        faulty("33 tokens in the other tree", leaf, wide + rest + "0" + leaf + "1", 3,
            6 + wide.length() + rest.length() + 1 + 6 + 1);
        // Each tree has tokens of its own count.
        counts("32 and 32", HeaderMaker.FULL_TREE, 32, HeaderMaker.FULL_TREE, 32);
    }

    private static void faulty(String what, String first, String further, int fault, int taken) {
        Film film = new Film();
        HeaderMaker maker = HeaderMaker.of(1, 1).trees(first, further);
        maker.bits().put(0, 32).feedTo(film);
        Check.due(what, fault, film.header());
        Check.due(what + ": taken()", 219 + taken, film.taken());
        Check.dueThrow(what + ": no header", IllegalStateException.class, () -> film.head(3));
    }

    private static void faultsChangeNothing() {
        Film film = HeaderMaker.of(3, 2).limit(4).film();
        Films.take("a frame", film,
            Films.first(0).tokens(30, 31, 30, 9, 10).tokens(17).put("0 111").tokens(3).put(0, 3));
        String before = Films.state(film);
        Bits tooLarge = new Bits().put("111 000 00");
        Bits tooShort = HeaderMaker.of(6, 6).bits().first(400);
        Bits tooDeep = HeaderMaker.of(6, 6).limit(31).trees("0".repeat(20), "").bits();
        Bits[] all = {tooLarge, tooShort, tooDeep, new Bits()};
        int[] faults = {2, 1, 3, 1};
        for (int i = 0; i < all.length; i++) {
            all[i].feedTo(film);
            Check.due("fault " + i, faults[i], film.header());
            Check.due("the state behind fault " + i, before.equals(Films.state(film)));
            Check.dueThrow("the tape is empty", IllegalArgumentException.class, () -> film.end(1));
        }
        Films.take("the header in force still reads frames", film,
            Films.between().put("0 110 10"));
    }

    private static void successDropsThePicture() {
        Film film = HeaderMaker.of(3, 2).film();
        Films.take("a frame", film, Films.first(0).tokens(4).put(0, 8));
        HeaderMaker.of(1, 2).bits().put(-1, 32).feedTo(film);
        Check.due("header() with bits left", 0, film.header());
        Check.dueThrow("bits left are gone", IllegalArgumentException.class, () -> film.end(1));
        Check.due("frames()", 0, film.frames());
        Check.due("sum()", 0, film.sum());
        Check.dueThrow("sample", IllegalStateException.class, () -> film.sample(0, 0, false));
        Check.dueThrow("golden", IllegalStateException.class, () -> film.sample(0, 0, true));
        Check.dueThrow("block", IllegalStateException.class, () -> film.block(0, 0, 0));
        Films.refuse("a frame between", film, new Bits().put(-1, 32), 4, 1);
    }

    private static void theFirstFaultCounts() {
        Film film = new Film();
        new Bits().put("11111111").feedTo(film);
        Check.due("too large, then too short", 2, film.header());
        Check.due("taken()", 6, film.taken());
        new Bits().put("00000000").feedTo(film);
        Check.due("too short", 1, film.header());
        Check.due("taken()", 8, film.taken());
    }

    /** Each scale and each step is the one of its number. */
    private static void everyFieldStandsWhereItShould() {
        HeaderMaker maker = HeaderMaker.of(1, 1);
        for (int i = 0; i < 8; i++) {
            maker.scales[i] = 100 * (i + 1);
        }
        for (int i = 0; i < 16; i++) {
            maker.steps[i] = 7 + 3 * i;
        }
        for (int scale = 0; scale < 8; scale++) {
            for (int group = 1; group < 16; group++) {
                Film one = maker.film();
                HeaderMaker alike = HeaderMaker.of(1, 1).steps(7 + 3 * group);
                alike.scales[0] = maker.scales[scale];
                Film same = alike.film();
                int place = 4 * group + scale % 4;
                Bits tail = new Bits();
                if (place < 9) {
                    tail.tokens(5).put(place - 1, 3).tokens(30);
                } else {
                    tail.tokens(6).put(place - 9, 6).tokens(30);
                }
                Films.take("by its scale", one, Films.first(scale).put(tail.text()));
                Films.take("by the same steps", same, Films.first(0).put(tail.text()));
                String which = "scale " + scale + ", group " + group;
                Check.due(which, Films.state(same).equals(Films.state(one)));
                Check.due(which + ": it is not all grey", !isGrey(one));
            }
        }
    }

    private static boolean isGrey(Film film) {
        for (int i = 0; i < 64; i++) {
            if (film.sample(i % 8, i / 8, false) != 128) {
                return false;
            }
        }
        return true;
    }

    /** 3 TREE is told at its bit: nothing behind it is wanted, and one bit less is 1 END. */
    private static void treeFaultsAtTheLastBit() {
        Bits deep = HeaderMaker.of(1, 1).trees("0".repeat(13), "").bits();
        // Of 32 tokens the last one leaves five trees open; a bit 1 would be the 33rd token.
        Bits wide = HeaderMaker.of(1, 1).trees("00000" + full(5) + "1", "").bits();
        Bits[] all = {deep, wide};
        for (Bits bits : all) {
            Check.due("it ends with a byte", 0, bits.length() % 8);
            Film film = bits.feedTo(new Film());
            Check.due("3 TREE at the last bit", 3, film.header());
            Check.due("taken()", bits.length(), film.taken());
            film = bits.first(bits.length() - 8).feedTo(new Film());
            Check.due("1 END before it", 1, film.header());
            Check.due("taken()", bits.length() - 8, film.taken());
        }
    }

    /** However a tree of 32 tokens is built: it is taken, and one more token is not. */
    private static void thirtyTwoTokensInAnyForm() {
        for (int deep = 0; deep <= 12; deep++) {
            // So many tokens lie beside the way down to the tree with all others.
            boolean toTheLeft = deep % 2 == 0;
            String leaf = HeaderMaker.leaf(deep);
            String rest = ofTokens(32 - deep, 12 - deep);
            if (rest.isEmpty()) {
                continue;
            }
            String more = ofTokens(33 - deep, 12 - deep);
            String tree = toTheLeft ? "0".repeat(deep) + rest + leaf.repeat(deep)
                : ("0" + leaf).repeat(deep) + rest;
            counts("32 tokens below " + deep, tree, 32, leaf, 1);
            counts("32 tokens below " + deep, leaf, 1, tree, 32);
            if (!more.isEmpty()) {
                String tooWide = toTheLeft ? "0".repeat(deep) + more + leaf.repeat(deep)
                    : ("0" + leaf).repeat(deep) + more;
                // The 33rd token is the last one: all but its five bits are taken.
                faulty("33 tokens below " + deep, tooWide, leaf, 3, tooWide.length() - 5);
                faulty("33 tokens below " + deep, leaf, tooWide, 3, 6 + tooWide.length() - 5);
            }
        }
    }

    /** A tree of as many tokens that is at most so deep, or nothing if there is none. */
    private static String ofTokens(int tokens, int depth) {
        if (tokens > 1 << depth) {
            return "";
        }
        if (tokens == 1) {
            return HeaderMaker.leaf(tokens);
        }
        return "0" + ofTokens(tokens / 2, depth - 1) + ofTokens(tokens - tokens / 2, depth - 1);
    }
}
