import java.util.Random;

/** WAVES to the last bit: pictures whose every number differs, and those beyond their bounds. */
public final class WavesTest {
    public static void main(String[] args) {
        for (int seed = 0; seed < 12; seed++) {
            // Most samples stay within a byte.
            picture(seed, 2, 100, 21, 36);
            picture(100 + seed, 7, 100, 4, 9);
            picture(200 + seed, 200, 1, 1, 40);
            picture(300 + seed, 0, 1023, 1, 60);
            // Many numbers go beyond -32768 or 32767.
            picture(400 + seed, 255, 1023, 10, 15);
            picture(500 + seed, 100, 700, 30, 60);
        }
        theBounds();
        Check.end();
    }

    private static void picture(int seed, int step, int scale, int least, int most) {
        Random random = new Random(seed);
        int factor = Math.max(2, step * scale / 100);
        HeaderMaker maker = HeaderMaker.of(6, 6).steps(step);
        maker.scales[0] = scale;
        Film film = maker.film();
        int[] order = Films.order(6, 6);
        int[][] products = new int[36][64];
        Bits frame = Films.first(0);
        for (int place = 0; place < 64; place++) {
            for (int i = 0; i < 36; i++) {
                int number = least + random.nextInt(most - least + 1);
                number = random.nextBoolean() ? number : -number;
                frame.numbers(number);
                products[order[i]][place] = product(number, factor);
            }
        }
        Films.take("picture " + seed, film, frame);
        for (int block = 0; block < 36; block++) {
            products[block][0] = product(film.block(block % 6, block / 6, 3), factor);
            same("picture " + seed + ", block " + block, film, block, products[block]);
        }
    }

    private static int product(int number, int factor) {
        return Math.max(-32768, Math.min(32767, number * factor));
    }

    private static void same(String what, Film film, int block, int[] products) {
        for (int i = 0; i < 64; i++) {
            int due = Films.inByte(128 + Waves.added(products, i % 8, i / 8));
            Check.due(what + ", sample " + i, due,
                film.sample(block % 6 * 8 + i % 8, block / 6 * 8 + i / 8, false));
        }
    }

    /** One number beyond a bound, and one that takes it back: the last bit of the bound is seen. */
    private static void theBounds() {
        HeaderMaker maker = HeaderMaker.of(1, 1).steps(254);
        maker.scales[0] = 1000;
        int factor = 2540;
        for (int place = 1; place < 64; place++) {
            for (int number = 11; number <= 14; number++) {
                for (int sign = -1; sign <= 1; sign += 2) {
                    Film film = maker.film();
                    Bits frame = Films.first(0).numbers(sign * number);
                    int[] products = new int[64];
                    products[0] = product(sign * number, factor);
                    for (int i = 1; i < 64; i++) {
                        int at = i == place ? -sign * number : sign * (i % 3 - 1);
                        products[i] = product(at, factor);
                        if (at == 0) {
                            frame.tokens(5).put(0, 3);
                        } else {
                            frame.numbers(at);
                        }
                    }
                    Films.take("beyond", film, frame);
                    same("place " + place + ", " + sign * number, film, 0, products);
                }
            }
        }
    }
}
