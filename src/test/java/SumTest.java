/** Promise 11: of all samples, in raster of the whole picture. */
public final class SumTest {
    public static void main(String[] args) {
        Film film = new Film();
        Check.due("of a new object", 0, film.sum());
        HeaderMaker.of(3, 2).bits().feedTo(film);
        film.header();
        Check.due("behind a header", 0, film.sum());
        Bits frame = Films.first(0);
        for (int i = 0; i < 6; i++) {
            frame.tokens(18).put(i % 3 == 0 ? 1 : 0, 1).put(3 * i, 4);
        }
        for (int i = 0; i < 6; i++) {
            frame.tokens(i % 2 == 0 ? 30 : 31);
        }
        Films.take("a frame", film, frame);
        Check.due("of a picture", sum(film, 24, 16), film.sum());
        Check.due("it is the same again", sum(film, 24, 16), film.sum());
        Check.due("samples differ", film.sample(0, 0, false) != film.sample(8, 0, false));
        Films.take("darker", film, Films.between().put("1 110 10").put("000000")
            .tokens(17).put("1 111").tokens(2).put(2, 2).tokens(0));
        Check.due("of the previous picture, not the golden one", sum(film, 24, 16), film.sum());
        Check.due("they differ", film.sample(0, 0, false) != film.sample(0, 0, true));
        HeaderMaker.of(1, 1).bits().feedTo(film);
        film.header();
        Check.due("behind another header", 0, film.sum());
        Films.take("grey", film, Films.first(0).tokens(0));
        int grey = 0;
        for (int i = 0; i < 64; i++) {
            grey = 31 * grey + 128;
        }
        Check.due("of a grey block", grey, film.sum());
        wrapsAround();
        Check.end();
    }

    private static int sum(Film film, int width, int height) {
        int sum = 0;
        for (int y = 0; y < height; y++) {
            for (int x = 0; x < width; x++) {
                sum = 31 * sum + film.sample(x, y, false);
            }
        }
        return sum;
    }

    /** The largest picture, all white: what goes beyond an int is let go, whatever its sign. */
    private static void wrapsAround() {
        int above = 0;
        int below = 0;
        for (int number = -20; number <= 20; number++) {
            Film film = HeaderMaker.of(6, 6).steps(60).film();
            Bits frame = Films.first(0);
            Films.take("a picture", film, (number == 0 ? frame : frame.numbers(number)).tokens(4)
                .put(255, 8));
            long sum = 0;
            for (int i = 0; i < 48 * 48; i++) {
                sum = (31 * sum + film.sample(i % 48, i / 48, false)) % (1L << 32);
            }
            long due = sum < 1L << 31 ? sum : sum - (1L << 32);
            Check.due("sum by " + number, due, film.sum());
            above += due > 0 ? 1 : 0;
            below += due < 0 ? 1 : 0;
        }
        Check.due("sums above 0: " + above + ", below: " + below, above > 5 && below > 5);
    }
}
