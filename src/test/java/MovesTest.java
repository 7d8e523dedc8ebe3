/** Promise 5, SAMPLES: the previous picture, moved by halves, each place brought into it. */
public final class MovesTest {
    private static final int WIDTH = 24;
    private static final int HEIGHT = 16;

    public static void main(String[] args) {
        for (int v = -31; v <= 31; v++) {
            move(v, 0);
            move(0, v);
            move(v, 31 - Math.abs(v));
            move(7 - v / 2, v);
        }
        move(31, -31);
        move(-31, 31);
        move(-31, -31);
        handMade();
        farOutOfOneBlock();
        goldenStaysInItsPlace();
        Check.end();
    }

    /** A picture in which all samples near to one another differ. */
    private static Film film() {
        Film film = HeaderMaker.of(3, 2).steps(30).film();
        Bits frame = Films.first(0).tokens(11).put("0").tokens(8, 9, 12).put("1").tokens(7, 10);
        for (int i = 0; i < 6; i++) {
            frame.tokens(i % 2 == 0 ? 11 : 12).put(i % 3 == 0 ? "1" : "0");
        }
        for (int i = 0; i < 6; i++) {
            frame.tokens(i % 2 == 1 ? 9 : 8);
        }
        Films.take("a picture", film, frame.tokens(3).put(0, 3));
        return film;
    }

    private static String number(int number) {
        return new Bits().put(Math.abs(number), 5).put(number < 0 ? 1 : 0, 1).text();
    }

    private static void move(int v, int w) {
        Film film = film();
        int[] before = samples(film);
        Bits frame = Films.between().put("1 110 10").put("110").put(number(v)).put(number(w))
            .put("1110 1110 1110 1110 1110").tokens(3).put(0, 3);
        Films.take("moved " + v + ", " + w, film, frame);
        for (int i = 0; i < before.length; i++) {
            int x = i % WIDTH;
            int y = i / WIDTH;
            // Halves: below and above the middle of twice the place.
            int one = at(before, Math.floorDiv(2 * x + v, 2), Math.floorDiv(2 * y + w, 2));
            int other = at(before, Math.floorDiv(2 * x + v + 1, 2),
                Math.floorDiv(2 * y + w + 1, 2));
            Check.due("moved " + v + ", " + w + ": sample " + x + ", " + y, (one + other) / 2,
                film.sample(x, y, false));
            Check.due("golden stays", before[i], film.sample(x, y, true));
        }
    }

    private static int[] samples(Film film) {
        int[] samples = new int[WIDTH * HEIGHT];
        for (int i = 0; i < samples.length; i++) {
            samples[i] = film.sample(i % WIDTH, i / WIDTH, false);
        }
        return samples;
    }

    private static int at(int[] samples, int x, int y) {
        int column = Math.max(0, Math.min(WIDTH - 1, x));
        int row = Math.max(0, Math.min(HEIGHT - 1, y));
        return samples[row * WIDTH + column];
    }

    /** Two blocks, 128 and 138; the left one comes from 7 halves to the right, and 1 below it. */
    private static void handMade() {
        Film film = HeaderMaker.of(2, 1).steps(40).film();
        Films.take("two blocks", film, Films.first(0).tokens(5).put(7, 3).tokens(9, 0, 0));
        Check.due("left", 128, film.sample(7, 0, false));
        Check.due("right", 138, film.sample(8, 0, false));
        Films.take("moved", film, Films.between().put("1 0 0").put("110 00111 0 00001 1")
            .tokens(0));
        int[] due = {128, 128, 128, 128, 133, 138, 138, 138, 138, 138};
        for (int x = 0; x < due.length; x++) {
            for (int y = 0; y < 8; y++) {
                Check.due("sample " + x + ", " + y, due[x], film.sample(x, y, false));
            }
        }
        // All blocks move by the picture as it was, whatever became of those before them.
        Films.take("both to the left", film, Films.between().put("1 100")
            .put("110 11111 1 00000 0 1110").tokens(1));
        Check.due("both are of the left border", 128, film.sample(0, 0, false));
        Check.due("15.5 to the left", 128, film.sample(15, 3, false));
    }

    /** Each place is brought into the picture: of one block nothing but a corner is left. */
    private static void farOutOfOneBlock() {
        for (int v = -31; v <= 31; v += 31) {
            for (int w = -31; w <= 31; w += 31) {
                Film film = HeaderMaker.of(1, 1).steps(60).film();
                Films.take("a picture", film, Films.first(0).numbers(1, -3, 2, 1, -2, 3, 1)
                    .tokens(0));
                int[] before = new int[64];
                for (int i = 0; i < 64; i++) {
                    before[i] = film.sample(i % 8, i / 8, false);
                }
                Films.take("moved", film, Films.between().put("1").runs(1).put("110")
                    .put(number(v)).put(number(w)).tokens(0));
                for (int i = 0; i < 64; i++) {
                    int x = v < 0 ? 0 : v > 0 ? 7 : i % 8;
                    int y = w < 0 ? 0 : w > 0 ? 7 : i / 8;
                    Check.due("by " + v + ", " + w + ": sample " + i, before[8 * y + x],
                        film.sample(i % 8, i / 8, false));
                }
            }
        }
    }

    /** GOLDEN takes each sample from its own place, whatever has become of the previous picture. */
    private static void goldenStaysInItsPlace() {
        Film film = film();
        int[] golden = samples(film);
        Films.take("all moved", film, Films.between().put("1").runs(6).put("110 10011 0 01101 1")
            .put("1110 1110 1110 1110 1110").tokens(3).put(0, 3));
        int[] moved = samples(film);
        // In order: (0,0) and (1,0) not coded, (1,1) (0,1) (2,1) golden, (2,0) not coded.
        Films.take("some golden", film, Films.between().put("0").runs(2, 3, 1)
            .put("1111 1111 1111").tokens(2).put(0, 2));
        int differ = 0;
        for (int i = 0; i < golden.length; i++) {
            boolean below = i / WIDTH >= 8;
            Check.due("sample " + i, below ? golden[i] : moved[i],
                film.sample(i % WIDTH, i / WIDTH, false));
            differ += golden[i] == moved[i] ? 0 : 1;
        }
        Check.due("the pictures differ: " + differ, differ > WIDTH * HEIGHT / 2);
    }
}
