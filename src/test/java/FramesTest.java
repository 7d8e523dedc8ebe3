/** Promise 7: how many frames were taken since the header. */
public final class FramesTest {
    public static void main(String[] args) {
        Film film = HeaderMaker.of(1, 1).film();
        Bits first = Films.first(0).tokens(0);
        Bits notCoded = Films.between().put("0 0");
        Check.due("frames() behind the header", 0, film.frames());
        for (int i = 1; i <= 40; i++) {
            Films.take("frame " + i, film, i % 3 == 1 ? first : notCoded);
            Check.due("frames()", i, film.frames());
        }
        Films.refuse("a fault", film, Films.between().put("0 10 0"), 5, 9);
        Check.due("frames() behind a fault", 40, film.frames());
        Check.due("a header with a fault", 1, film.header());
        Check.due("frames() behind it", 40, film.frames());
        HeaderMaker.of(1, 1).bits().feedTo(film);
        Check.due("a header", 0, film.header());
        Check.due("frames() behind another header", 0, film.frames());
        Films.take("a frame", film, first);
        Check.due("frames() since", 1, film.frames());
        Check.end();
    }
}
