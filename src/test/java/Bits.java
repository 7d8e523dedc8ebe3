/** Bits one behind the other, to be fed to an object. */
final class Bits {
    // Of tokens 11 to 20.
    private static final int[] NUMBERS = {3, 4, 5, 6, 7, 9, 13, 21, 37, 101};
    private static final int[] NUMBER_BITS = {0, 0, 0, 0, 1, 2, 3, 4, 6, 9};

    private final StringBuilder bits = new StringBuilder();

    /** Takes signs 0 and 1; spaces between them are for the reader. */
    Bits put(String zerosAndOnes) {
        bits.append(zerosAndOnes.replace(" ", ""));
        return this;
    }

    Bits put(int value, int count) {
        for (int shift = count - 1; shift >= 0; shift--) {
            bits.append((value >> shift & 1) == 1 ? '1' : '0');
        }
        return this;
    }

    /** Tokens of the full tree, each with five bits of its own. */
    Bits tokens(int... tokens) {
        for (int token : tokens) {
            put(token, 5);
        }
        return this;
    }

    /** Runs of FLAGS, each for 1 to 39 blocks. */
    Bits runs(int... lengths) {
        for (int length : lengths) {
            if (length == 1) {
                put("0");
            } else if (length < 4) {
                put("10").put(length - 2, 1);
            } else if (length < 8) {
                put("110").put(length - 4, 2);
            } else {
                put("111").put(length - 8, 5);
            }
        }
        return this;
    }

    /** The tokens of the full tree that bring these numbers, -612 to 612 but 0, and their bits. */
    Bits numbers(int... numbers) {
        for (int number : numbers) {
            int size = Math.abs(number);
            int below = number < 0 ? 1 : 0;
            if (size < 3) {
                tokens(5 + 2 * size + below);
            } else {
                int row = NUMBERS.length - 1;
                while (NUMBERS[row] > size) {
                    row--;
                }
                tokens(11 + row).put(below, 1).put(size - NUMBERS[row], NUMBER_BITS[row]);
            }
        }
        return this;
    }

    int length() {
        return bits.length();
    }

    int byteLength() {
        return (length() + 7) / 8;
    }

    String text() {
        return bits.toString();
    }

    Bits first(int count) {
        return new Bits().put(bits.substring(0, count));
    }

    /** Feeds the bits and cuts off the bytes that none of them needs. */
    Film feedTo(Film film) {
        int fed = 0;
        for (int from = 0; from < length(); from += 128) {
            film.feed(word(from), word(from + 32), word(from + 64), word(from + 96));
            fed += 16;
        }
        if (fed > 0) {
            film.end(byteLength());
        }
        return film;
    }

    private int word(int from) {
        int word = 0;
        for (int i = from; i < from + 32; i++) {
            word = word << 1 | (i < length() && bits.charAt(i) == '1' ? 1 : 0);
        }
        return word;
    }
}
