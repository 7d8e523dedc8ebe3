import java.util.Random;

/** Promise 5, NUMBERS: guesses, factors, bounds, and the sums of waves. */
public final class NumbersTest {
    public static void main(String[] args) {
        guessesOfNewBlocks();
        guessesByKind();
        halvesAreCutTowardsZero();
        factors();
        bounds();
        sumsOfWaves();
        noneOfItsKindInThisFrame();
        halvesOfAllSigns();
        largestFactor();
        everyModeIsBroughtIntoAByte();
        Check.end();
    }

    private static void numbers(String what, Film film, int columns, int[] due) {
        for (int i = 0; i < due.length; i++) {
            Films.number(what + ", " + i, due[i], film, i % columns, i / columns);
        }
    }

    private static void guessesOfNewBlocks() {
        Film film = HeaderMaker.of(2, 2).film();
        // In order (0,0) (1,0) (1,1) (0,1): 23, -1, 2, 1.
        Films.take("new", film, Films.first(0).tokens(18).put("0 0010").tokens(8, 9, 7, 3)
            .put(0, 3));
        numbers("new", film, 2, new int[] {23, 22, 24, 2 + (24 + 22) / 2});
        // What others guess by is the number with its guess, and no factor is in it.
        Films.take("zeros guess on", film, Films.first(0).tokens(20).put("1 111111111")
            .tokens(2).put(0, 2).tokens(0));
        numbers("zeros", film, 2, new int[] {-612, -612, -612, -612});
    }

    /** Raster of three by two: previous, golden, moved; golden, not coded, previous. */
    private static void guessesByKind() {
        Film film = HeaderMaker.of(3, 2).film();
        Films.take("a picture", film, Films.first(0).tokens(3).put(0, 3));
        // In order: (0,0) previous, (1,0) golden, (1,1) not coded, (0,1) golden, (2,1) previous,
        // (2,0) moved.
        Bits frame = Films.between().put("1 100 0 101").put("0 1111 1111 0 110 000010 000010")
            .tokens(16).put("0 00").tokens(17).put("0 000").tokens(9, 7, 11).put("0")
            .tokens(3).put(0, 3);
        Films.take("by kind", film, frame);
        // (2,0): none beside it, the latest is (0,0). (0,1): above is of another kind, the latest
        // is (1,0). (2,1): above is of its kind.
        numbers("by kind", film, 3, new int[] {9, 13, 3 + 9, 2 + 13, 0, 1 + 12});
        // New blocks apart, and the latest of them in raster, not in order.
        frame = Films.between().put("1 0 0 100 0 0").put("10 10 0 10")
            .tokens(14).put("0").tokens(13).put("0").tokens(12).put("0").tokens(7)
            .tokens(2).put(1, 2);
        Films.take("apart", film, frame);
        // In order: (0,0) new 6, (1,0) not coded, (1,1) new 5, (0,1) previous 4, (2,1) not coded,
        // (2,0) new 1.
        numbers("apart", film, 3, new int[] {6, 0, 1 + 6, 4, 5 + 7, 0});
        Films.take("nothing of an earlier frame", film,
            Films.between().put("0 100 0 101").put("10").tokens(7, 0));
        numbers("alone", film, 3, new int[] {0, 0, 0, 0, 1, 0});
    }

    private static void halvesAreCutTowardsZero() {
        Film film = HeaderMaker.of(2, 2).film();
        Films.take("below 0", film, Films.first(0).tokens(9, 10, 5).put(0, 3)
            .tokens(12).put("1").tokens(3).put(0, 3));
        // (1,0): -2 + 2 = 0; (0,1): -4 + 2 = -2; (1,1): (0 - 2) / 2 = -1.
        numbers("even", film, 2, new int[] {2, 0, -2, -1});
        Films.take("odd below 0", film, Films.first(0).tokens(7, 10, 5).put(0, 3)
            .tokens(11).put("1").tokens(3).put(0, 3));
        // (1,0): -1; (0,1): -2; (-3) / 2 is -1.
        numbers("odd", film, 2, new int[] {1, -1, -2, -1});
        Films.take("odd above 0", film, Films.first(0).tokens(7, 7, 5).put(0, 3)
            .tokens(9).tokens(3).put(0, 3));
        numbers("odd", film, 2, new int[] {1, 2, 3, 2});
    }

    private static void factors() {
        int[][] all = {{0, 0, 2}, {1, 199, 2}, {1, 300, 3}, {1, 399, 3}, {33, 100, 33},
            {33, 101, 33}, {33, 103, 33}, {33, 104, 34}, {5, 39, 2}, {5, 60, 3}, {199, 1, 2},
            {7, 1000, 70}};
        for (int[] one : all) {
            HeaderMaker maker = HeaderMaker.of(1, 1).steps(one[0]);
            maker.scales[5] = one[1];
            Film film = maker.film();
            Films.take("factor", film, Films.first(5).tokens(17).put("1 010").tokens(0));
            Check.due(one[0] + " by " + one[1], Films.inByte(128 + Films.level(-15 * one[2])),
                film.sample(4, 4, false));
        }
    }

    /** At x = 0 the waves of places 0 and 14 are alike: what goes beyond a bound goes out. */
    private static void bounds() {
        HeaderMaker maker = HeaderMaker.of(1, 1).steps(255);
        maker.scales[0] = 1023;
        Film film = maker.film();
        Films.take("above and below", film, Films.first(0).tokens(20).put("0 111110100")
            .tokens(27).put("1 010").tokens(0));
        Check.due("it is 2608 too much", 255, film.sample(0, 0, false));
        Films.take("both beyond", film, Films.first(0).tokens(20).put("0 000000000")
            .tokens(27).put("0 001").tokens(0));
        Check.due("above", 255, film.sample(0, 0, false));
        Bits frame = Films.first(0).tokens(20).put("0 000000000").tokens(6).put("000100")
            .tokens(20).put("1 111111111").tokens(0);
        Films.take("32767 and -32768", film, frame);
        Check.due("they go out", 128, film.sample(0, 0, false));
        Check.due("they add up", 255, film.sample(1, 0, false));
        frame = Films.first(0).tokens(20).put("1 000000000").tokens(6).put("000100")
            .tokens(20).put("0 111111111").tokens(0);
        Films.take("-32768 and 32767", film, frame);
        Check.due("they go out", 128, film.sample(7, 7, false));
        Check.due("they add up", 0, film.sample(2, 7, false));
    }

    /** Each place holds a number: the samples are the sums of all their waves. */
    private static void sumsOfWaves() {
        Random random = new Random(7);
        for (int run = 0; run < 200; run++) {
            Film film = HeaderMaker.of(1, 1).film();
            int[] products = new int[64];
            Bits frame = Films.first(0);
            for (int place = 0; place < 64; place++) {
                int number = 21 + random.nextInt(16);
                number = random.nextBoolean() ? number : -number;
                products[place] = 2 * number;
                frame.numbers(number);
            }
            Films.take("sum", film, frame);
            for (int i = 0; i < 64; i++) {
                int due = Films.inByte(128 + Waves.added(products, i % 8, i / 8));
                Check.due("run " + run + ", sample " + i, due, film.sample(i % 8, i / 8, false));
            }
        }
    }

    /** 0 without: of no kind does a guess come from an earlier frame, nor from another kind. */
    private static void noneOfItsKindInThisFrame() {
        String[] modes = {"0", "10", "1111", "110 00001 0 00000 0"};
        Film film = HeaderMaker.of(2, 1).film();
        Films.take("a picture", film, Films.first(0).numbers(3, 4).tokens(1));
        for (String mode : modes) {
            for (int times = 0; times < 3; times++) {
                Films.take("alone", film, Films.between().put("1").runs(1, 1).put(mode)
                    .numbers(40).tokens(0));
                numbers("alone, " + mode, film, 2, new int[] {40, 0});
                Films.take("alone, without a number", film, Films.between().put("0").runs(1, 1)
                    .put(mode).tokens(0));
                numbers("without, " + mode, film, 2, new int[] {0, 0});
            }
            for (String other : modes) {
                boolean alike = isElse(mode) && isElse(other) || mode.equals(other);
                Films.take("both", film, Films.between().put("1").runs(2).put(mode).put(other)
                    .numbers(40).tokens(1));
                numbers(mode + " and " + other, film, 2, new int[] {40, alike ? 40 : 0});
            }
        }
    }

    private static boolean isElse(String mode) {
        return mode.equals("0") || mode.startsWith("110 ");
    }

    /** The sum of the left and the upper one, halved, cut towards 0. */
    private static void halvesOfAllSigns() {
        for (int left = -7; left <= 7; left++) {
            Film film = HeaderMaker.of(2, 2).film();
            for (int above = -7; above <= 7; above++) {
                // The first has 20; in order it is followed by (1,0), (1,1), (0,1).
                Films.take("halves", film, Films.first(0).numbers(20, above - 20).tokens(5)
                    .put(0, 3).numbers(left - 20).tokens(2).put(1, 2));
                numbers(left + " and " + above, film, 2,
                    new int[] {20, above, left, (left + above) / 2});
            }
        }
    }

    /** STEPS of 255 times SCALE of 1023, by 100, is 2608.65: below 4096, and cut. */
    private static void largestFactor() {
        HeaderMaker maker = HeaderMaker.of(1, 1).steps(255);
        maker.scales[7] = 1023;
        int wouldDiffer = 0;
        for (int first = 1; first <= 12; first++) {
            Film film = maker.film();
            for (int second = -12; second < 0; second++) {
                Films.take("largest", film, Films.first(7).numbers(first, second).tokens(0));
                for (int i = 0; i < 64; i++) {
                    int due = ofTwo(first, second, 2608, i);
                    wouldDiffer += due == ofTwo(first, second, 2609, i) ? 0 : 1;
                    Check.due(first + " and " + second + ": sample " + i, due,
                        film.sample(i % 8, i / 8, false));
                }
            }
        }
        Check.due("a factor of 2609 would be seen", wouldDiffer > 0);
    }

    private static int ofTwo(int first, int second, int factor, int i) {
        int[] products = new int[64];
        products[0] = first * factor;
        products[1] = second * factor;
        return Films.inByte(128 + Waves.added(products, i % 8, i / 8));
    }

    /** NEW from 128, the others from what they take over: below 0 and above 255 none comes. */
    private static void everyModeIsBroughtIntoAByte() {
        String[] modes = {"0", "10", "1111", "110 00010 0 00010 1"};
        for (String mode : modes) {
            int grey = 118;
            int base = mode.equals("10") ? 128 : grey;
            int[] added = {-300, -base - 1, -base, -base + 1, 254 - base, 255 - base, 256 - base,
                300};
            for (int one : added) {
                Film film = HeaderMaker.of(1, 1).steps(8).film();
                Films.take("grey", film, Films.first(0).numbers(-10).tokens(0));
                Check.due("grey", grey, film.sample(3, 3, false));
                // Eight times a number is what comes, at factor 8: 64 times 1/8.
                Films.take("brought", film, Films.between().put("1").runs(1).put(mode)
                    .numbers(one).tokens(0));
                Check.due(mode + " and " + one, Films.inByte(base + one),
                    film.sample(3, 3, false));
                Check.due("the last sample", Films.inByte(base + one), film.sample(7, 7, false));
            }
        }
    }
}
