import java.util.Random;

/** Long random runs, each answer compared with the model's; what they meet is counted. */
public final class ModelTest {
    private static final int RUNS = 150;
    // The calls that change an object; those that ask are not among them.
    private static final int MOST_CHANGES = 300;
    // Tokens by how often they stand in a tree; long ways are rare, so that frames are taken.
    private static final int[] OFTEN = {0, 1, 1, 2, 2, 3, 4, 5, 7, 7, 8, 8, 9, 9, 10, 10, 11, 12,
        13, 14, 15, 16, 17, 18, 19, 20, 21, 22, 23, 24, 25, 26, 28, 28, 29, 29, 30, 31};

    private static final int[] headerFaults = new int[7];
    private static final int[] frameFaults = new int[7];
    private static final int[] modes = new int[5];

    public static void main(String[] args) {
        for (int run = 0; run < RUNS; run++) {
            run(run);
        }
        int[] dueOfHeader = {1, 1, 1, 1, 0, 0, 0};
        int[] dueOfFrame = {1, 1, 0, 0, 1, 1, 1};
        for (int fault = 0; fault < 7; fault++) {
            Check.due("headers with fault " + fault + ": " + headerFaults[fault],
                dueOfHeader[fault], Math.min(1, headerFaults[fault]));
            Check.due("frames with fault " + fault + ": " + frameFaults[fault],
                dueOfFrame[fault], Math.min(1, frameFaults[fault]));
        }
        Check.due("many frames are taken: " + frameFaults[0], frameFaults[0] > 2000);
        for (int mode = 0; mode < 5; mode++) {
            Check.due("many blocks of mode " + mode + ": " + modes[mode], modes[mode] > 2000);
        }
        Check.end();
    }

    private static void run(int seed) {
        Random random = new Random(seed);
        Film film = new Film();
        Model model = new Model();
        for (int step = 0; film.changes() < MOST_CHANGES; step++) {
            boolean isHeader = step == 0 || random.nextInt(25) == 0 || !hasHeader(film);
            Bits bits = isHeader ? headerBits(random)
                : frameBits(random, film.head(0) * film.head(1), film.frames() > 0);
            feed(bits, model);
            int due = isHeader ? model.header() : model.frame();
            // Bits that are left do not count: of those the film has only a few.
            int few = Math.min(bits.length(), model.taken() + random.nextInt(40));
            if (film.changes() + few / 128 + 3 > MOST_CHANGES) {
                return;
            }
            bits.first(few).feedTo(film);
            String what = "run " + seed + ", step " + step;
            Check.due(what, due, isHeader ? film.header() : film.frame());
            (isHeader ? headerFaults : frameFaults)[due]++;
            compare(what, film, model, random);
        }
    }

    private static boolean hasHeader(Film film) {
        try {
            return film.head(0) > 0;
        } catch (IllegalStateException e) {
            return false;
        }
    }

    private static void feed(Bits bits, Model model) {
        String text = bits.text();
        for (int from = 0; from < text.length(); from += 128) {
            int[] words = new int[4];
            for (int i = from; i < from + 128 && i < text.length(); i++) {
                int bit = text.charAt(i) - '0';
                words[(i - from) / 32] |= bit << (31 - (i - from) % 32);
            }
            model.feed(words);
        }
        model.end(bits.byteLength());
    }

    private static void compare(String which, Film film, Model model, Random random) {
        Check.due(which + ": taken()", model.taken(), film.taken());
        Check.due(which + ": frames()", model.frames(), film.frames());
        Check.due(which + ": sum()", model.sum(), film.sum());
        if (!hasHeader(film)) {
            Check.dueThrow(which + ": no header", IllegalStateException.class,
                () -> model.head(0));
            return;
        }
        for (int what = 0; what < 5; what++) {
            Check.due(which + ": head(" + what + ")", model.head(what), film.head(what));
        }
        if (film.frames() == 0) {
            return;
        }
        int columns = film.head(0);
        for (int i = 0; i < columns * film.head(1); i++) {
            for (int what = 0; what < 3; what++) {
                Check.due(which + ": block " + i + ", " + what,
                    model.block(i % columns, i / columns, what),
                    film.block(i % columns, i / columns, what));
            }
            Films.number(which + ": block " + i + ", its number",
                model.block(i % columns, i / columns, 3), film, i % columns, i / columns);
            modes[model.block(i % columns, i / columns, 0)]++;
        }
        // sum() tells of every sample of the previous picture; of the golden one nothing else does.
        for (int i = 0; i < 64 * columns * film.head(1); i += 1 + random.nextInt(15)) {
            int x = i % (8 * columns);
            int y = i / (8 * columns);
            Check.due(which + ": sample", model.sample(x, y, false), film.sample(x, y, false));
            Check.due(which + ": golden", model.sample(x, y, true), film.sample(x, y, true));
        }
    }

    private static Bits headerBits(Random random) {
        HeaderMaker maker = HeaderMaker.of(size(random), size(random));
        maker.limit(random.nextInt(3) == 0 ? 0 : random.nextInt(32));
        for (int i = 0; i < 8; i++) {
            maker.scales[i] = random.nextInt(random.nextInt(3) == 0 ? 1024 : 150);
        }
        int most = random.nextInt(3) == 0 ? 256 : 30;
        for (int i = 0; i < 16; i++) {
            maker.steps[i] = random.nextInt(most);
        }
        maker.trees(tree(random), tree(random));
        Bits bits = maker.bits();
        switch (random.nextInt(12)) {
            case 0:
                return bits.first(random.nextInt(bits.length()));
            case 1:
                return maker.trees("0".repeat(9) + random(random, 200), "").bits();
            default:
                return bits;
        }
    }

    private static int size(Random random) {
        return random.nextInt(30) == 0 ? 7 + random.nextInt(2) : 1 + random.nextInt(6);
    }

    private static String tree(Random random) {
        return tree(random, 1 + random.nextInt(random.nextInt(8) == 0 ? 34 : 32), 0);
    }

    private static String tree(Random random, int tokens, int depth) {
        if (tokens == 1) {
            int token = random.nextInt(40) == 0 ? random.nextInt(32)
                : OFTEN[random.nextInt(OFTEN.length)];
            return HeaderMaker.leaf(token);
        }
        int left = 1 + random.nextInt(tokens - 1);
        if (depth > 7) {
            left = tokens / 2;
        }
        return "0" + tree(random, left, depth + 1) + tree(random, tokens - left, depth + 1);
    }

    private static String random(Random random, int bits) {
        StringBuilder text = new StringBuilder();
        for (int i = 0; i < bits; i++) {
            text.append(random.nextInt(2));
        }
        return text.toString();
    }

    private static Bits frameBits(Random random, int blocks, boolean hasPicture) {
        boolean between = hasPicture ? random.nextInt(6) > 0 : random.nextInt(6) == 0;
        Bits bits = new Bits().put(between ? 1 : 0, 1).put(random.nextInt(8), 3)
            .put(random.nextInt(3) == 0 ? 1 : 0, 1);
        if (between && random.nextInt(12) > 0) {
            flags(random, blocks, bits);
        }
        int length = random.nextInt(10) == 0 ? random.nextInt(400) : 12000;
        return bits.put(random(random, length));
    }

    private static void flags(Random random, int blocks, Bits bits) {
        bits.put(random.nextInt(2), 1);
        int left = blocks;
        while (left > 0) {
            int run = 1 + random.nextInt(Math.min(left, random.nextInt(4) == 0 ? 39 : 8));
            if (run == 1) {
                bits.put("0");
            } else if (run < 4) {
                bits.put("10").put(run - 2, 1);
            } else if (run < 8) {
                bits.put("110").put(run - 4, 2);
            } else {
                bits.put("111").put(run - 8, 5);
            }
            left -= run;
        }
    }
}
