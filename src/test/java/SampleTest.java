/** Promise 8: a sample of the previous picture, or of the golden one. */
public final class SampleTest {
    public static void main(String[] args) {
        Film film = HeaderMaker.of(2, 3).film();
        Check.dueThrow("no picture", IllegalStateException.class, () -> film.sample(-1, 0, false));
        // 21 in the first block, 36 and the guess in the second one, all others guess.
        Films.take("a frame", film, Films.first(0).tokens(18).put("0 0000").tokens(18).put("0 1111")
            .tokens(2).put(1, 2).tokens(1));
        int near = 128 + Films.level(2 * 21);
        int far = 128 + Films.level(2 * (21 + 36));
        Check.due("top left", near, film.sample(0, 0, false));
        Check.due("of the first block", near, film.sample(7, 7, false));
        Check.due("of the second block", far, film.sample(8, 0, false));
        Check.due("golden", far, film.sample(15, 7, true));
        places(film);
        bothPictures(film);
        Check.end();
    }

    private static void places(Film film) {
        film.sample(15, 23, false);
        film.sample(15, 23, true);
        int[][] wrong = {{-1, 0}, {0, -1}, {16, 0}, {0, 24}, {16, 24}, {23, 15},
            {Integer.MAX_VALUE, 0}, {0, Integer.MIN_VALUE}};
        for (int[] place : wrong) {
            for (int golden = 0; golden < 2; golden++) {
                boolean ofGolden = golden == 1;
                Check.dueThrow("sample " + place[0] + ", " + place[1],
                    IndexOutOfBoundsException.class,
                    () -> film.sample(place[0], place[1], ofGolden));
            }
        }
    }

    private static void bothPictures(Film film) {
        int before = film.sample(0, 0, false);
        // Six previous blocks; the first one has 20 less, the other ones guess the same.
        Films.take("darker by 20", film, Films.between().put("1 110 10").put("000000")
            .tokens(17).put("1 111").tokens(2).put(2, 2).tokens(0));
        int less = Films.level(-2 * 20);
        Check.due("previous", before + less, film.sample(0, 0, false));
        Check.due("golden stays", before, film.sample(0, 0, true));
    }
}
