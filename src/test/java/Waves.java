/** What is added by one number, from cosines and a table of places that is written out. */
final class Waves {
    /** By row and column of the square: which place it is. */
    private static final int[] PLACES = {
        0, 1, 5, 6, 14, 15, 27, 28,
        2, 4, 7, 13, 16, 26, 29, 42,
        3, 8, 12, 17, 25, 30, 41, 43,
        9, 11, 18, 24, 31, 40, 44, 53,
        10, 19, 23, 32, 39, 45, 52, 54,
        20, 22, 33, 38, 46, 51, 55, 60,
        21, 34, 37, 47, 50, 56, 59, 61,
        35, 36, 48, 49, 57, 58, 62, 63};

    private Waves() {
    }

    static long t(int x, int u) {
        return u == 0 ? 11585 : Math.round(16384 * Math.cos((2 * x + 1) * u * Math.PI / 16));
    }

    /** What a number, its factor taken in, adds to sample (x, y), if all others are 0. */
    static int alone(int place, int number, int x, int y) {
        int spot = 0;
        while (PLACES[spot] != place) {
            spot++;
        }
        long row = Math.floorDiv(t(x, spot % 8) * number + 16384, 32768L);
        return (int) Math.floorDiv(t(y, spot / 8) * row + 16384, 32768L);
    }

    /** What 64 numbers, their factors taken in, add to sample (x, y), to the last bit. */
    static int added(int[] numbers, int x, int y) {
        long column = 16384;
        for (int v = 0; v < 8; v++) {
            long row = 16384;
            for (int u = 0; u < 8; u++) {
                row += t(x, u) * numbers[PLACES[8 * v + u]];
            }
            column += t(y, v) * Math.floorDiv(row, 32768L);
        }
        return (int) Math.floorDiv(column, 32768L);
    }
}
