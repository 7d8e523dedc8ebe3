/** FAULTS change nothing but the tape and what taken() tells, nor anything that comes behind. */
public final class FaultsTest {
    private static final String STATELESS = Films.state(new Film());

    public static void main(String[] args) {
        Bits[] frames = frames();
        String[] states = states(frames);
        Check.due("the state in the end is not as at first",
            !states[0].equals(states[frames.length]));
        for (int i = 0; i < frames.length; i++) {
            disturbedBefore(i, frames, states);
        }
        Check.end();
    }

    private static HeaderMaker maker() {
        return HeaderMaker.of(3, 2).limit(9).steps(12);
    }

    /** The states behind the header and behind each frame, without any fault. */
    private static String[] states(Bits[] frames) {
        Film film = maker().film();
        String[] states = new String[frames.length + 1];
        states[0] = Films.state(film);
        for (int i = 0; i < frames.length; i++) {
            Films.take("plain " + i, film, frames[i]);
            states[i + 1] = Films.state(film);
        }
        return states;
    }

    /** All faults come before one of the frames. */
    private static void disturbedBefore(int number, Bits[] frames, String[] states) {
        Film film = new Film();
        if (number == 0) {
            headerFaults(film, STATELESS);
        }
        maker().bits().feedTo(film);
        Check.due("header()", 0, film.header());
        for (int i = 0; i < frames.length; i++) {
            String what = "frame " + i + ", disturbed before " + number;
            Check.due("the state before " + what, states[i].equals(Films.state(film)));
            if (i == number) {
                disturb(film, i, frames[i], states[i]);
            }
            Films.take(what, film, frames[i]);
        }
        Check.due("the state in the end", states[frames.length].equals(Films.state(film)));
    }

    private static void disturb(Film film, int number, Bits frame, String state) {
        headerFaults(film, state);
        cuts(film, frame);
        headerFaults(film, state);
        if (number == 0) {
            Films.refuse("between, before any picture", film, Films.between(), 4, 1);
        } else {
            frameFaults(film);
        }
    }

    /** Kept and not, moved as the latest, golden; endings that are not all used up. */
    private static Bits[] frames() {
        Bits all = new Bits().put("1").runs(6);
        return new Bits[] {
            Films.first(0).numbers(20, -7, 9, -3, 5, 11).numbers(4, -2, 6, 8, -9, 1).tokens(4)
                .put(255, 8),
            Films.between().put(all.text()).put("110 00011 0 00101 1 1110 0 10 1111 1110")
                .numbers(9, 9, -20, 15, 3, -1).tokens(4).put(0, 8),
            Films.between().put("0").runs(2, 1, 3).put("1110").numbers(-8).tokens(4).put(255, 8),
            new Bits().put("1 000 1").put("1").runs(4, 2).put("1111 1111 0 110 00001 1 11111 0")
                .numbers(-11, 12, -13, 14).tokens(3).put(0, 3),
            Films.between().put("0").runs(6),
            Films.between().put("1").runs(1, 4, 1).put("1111 10").tokens(0).numbers(30).tokens(1),
            Films.first(0).tokens(2).put(0, 2).numbers(1, 2, 3).tokens(2).put(3, 2)};
    }

    private static void headerFaults(Film film, String state) {
        String leaf = HeaderMaker.leaf(9);
        Bits[] headers = {
            new Bits(), HeaderMaker.of(6, 6).limit(31).bits().first(400),
            HeaderMaker.of(7, 1).bits(), HeaderMaker.of(1, 7).bits(), HeaderMaker.of(8, 8).bits(),
            HeaderMaker.of(5, 4).steps(255).trees("0".repeat(13), leaf).bits(),
            HeaderMaker.of(5, 4).trees(leaf, "0" + HeaderMaker.FULL_TREE + leaf).bits()};
        int[] faults = {1, 1, 2, 2, 2, 3, 3};
        for (int i = 0; i < headers.length; i++) {
            headers[i].feedTo(film);
            Check.due("header fault " + i, faults[i], film.header());
            Check.due("the state behind header fault " + i, state.equals(Films.state(film)));
        }
    }

    private static void cuts(Film film, Bits frame) {
        for (int bits = 0; bits < frame.length(); bits += 8) {
            Films.refuse("cut behind " + bits + " bits", film, frame.first(bits), 1, bits);
        }
    }

    private static void frameFaults(Film film) {
        Bits run = Films.between().put("1").runs(3, 1, 3);
        Films.refuse("RUN", film, run, 5, run.length());
        Bits moved = new Bits().put("1 111 1").put("1").runs(6)
            .put("110 11111 0 11111 1 1110 1111 10 0 1110").numbers(100, 200, 300);
        Bits pass = new Bits().put(moved.text()).tokens(6).put(63, 6);
        Films.refuse("PLACE by passing", film, pass, 6, pass.length());
        Bits number = new Bits().put(moved.text()).tokens(2).put(0, 2).tokens(6).put(50, 6)
            .tokens(6).put(52, 6).tokens(0, 25).put(0, 1);
        Films.refuse("PLACE by a number", film, number, 6, number.length());
        Bits ending = Films.first(7).numbers(-300).tokens(4).put(255, 8);
        Films.refuse("END with blocks that are to end", film,
            new Bits().put(ending.text()).tokens(20).first(32), 1, 32);
    }
}
