/** Bits one behind the other, to be fed to an object. */
final class Bits {
    private final StringBuilder bits = new StringBuilder();

    /** Takes signs 0 and 1; spaces between them are for the reader. */
    Bits put(String zerosAndOnes) {
        bits.append(zerosAndOnes.replace(" ", ""));
        return this;
    }

    Bits put(int value, int count) {
        for (int shift = count - 1; shift >= 0; shift--) {
            bits.append((value >> shift & 1) == 1 ? '1' : '0');
        }
        return this;
    }

    /** Tokens of the full tree, each with five bits of its own. */
    Bits tokens(int... tokens) {
        for (int token : tokens) {
            put(token, 5);
        }
        return this;
    }

    int length() {
        return bits.length();
    }

    int byteLength() {
        return (length() + 7) / 8;
    }

    String text() {
        return bits.toString();
    }

    Bits first(int count) {
        return new Bits().put(bits.substring(0, count));
    }

    /** Feeds the bits and cuts off the bytes that none of them needs. */
    FilmBlocks feedTo(FilmBlocks film) {
        int fed = 0;
        for (int from = 0; from < length(); from += 128) {
            film.feed(word(from), word(from + 32), word(from + 64), word(from + 96));
            fed += 16;
        }
        if (fed > 0) {
            film.end(byteLength());
        }
        return film;
    }

    private int word(int from) {
        int word = 0;
        for (int i = from; i < from + 32; i++) {
            word = word << 1 | (i < length() && bits.charAt(i) == '1' ? 1 : 0);
        }
        return word;
    }
}
