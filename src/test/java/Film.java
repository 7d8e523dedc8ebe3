import java.util.ArrayList;
import java.util.List;

/**
 * An object as the tests use it: for at most 512 calls, as what later calls answer is free. For a
 * call that would be one too many a new object is brought to where the former one stood, by the
 * same feeds, ends, headers and frames, and goes on in its place.
 */
final class Film {
    private static final int MOST_CALLS = 512;

    /** A call that may change the object. */
    private interface Change {
        int on(FilmBlocks blocks);
    }

    private final List<Change> changes = new ArrayList<>();
    private FilmBlocks blocks = new FilmBlocks();
    private int calls = 0;
    private int objects = 1;

    int feed(int a, int b, int c, int d) {
        return change(one -> one.feed(a, b, c, d));
    }

    void end(int n) {
        change(one -> {
            one.end(n);
            return 0;
        });
    }

    int header() {
        return change(FilmBlocks::header);
    }

    int frame() {
        return change(FilmBlocks::frame);
    }

    int head(int what) {
        return ready().head(what);
    }

    int frames() {
        return ready().frames();
    }

    int sample(int x, int y, boolean golden) {
        return ready().sample(x, y, golden);
    }

    int block(int column, int row, int what) {
        return ready().block(column, row, what);
    }

    int taken() {
        return ready().taken();
    }

    int sum() {
        return ready().sum();
    }

    /** How many calls the object that is in use has had. */
    int calls() {
        return calls;
    }

    /** How many of the calls so far may have changed the object. */
    int changes() {
        return changes.size();
    }

    /** How many objects there were, one behind the other. */
    int objects() {
        return objects;
    }

    private int change(Change change) {
        FilmBlocks ready = ready();
        changes.add(change);
        return change.on(ready);
    }

    /** The object, for one call: it is counted here. */
    private FilmBlocks ready() {
        if (calls == MOST_CALLS) {
            renew();
        }
        calls++;
        return blocks;
    }

    private void renew() {
        if (changes.size() >= MOST_CALLS) {
            throw new AssertionError("the test changes one object more than 512 times");
        }
        blocks = new FilmBlocks();
        objects++;
        for (Change change : changes) {
            try {
                change.on(blocks);
            } catch (RuntimeException e) {
                // It threw the first time, too, and was looked at then.
            }
        }
        calls = changes.size();
    }
}
