import java.util.ArrayList;
import java.util.List;

/**
 * All that can be asked of an object, line by line, so that two objects can be held against each other. What can only
 * be seen by a change (the tape, the ACTS, the IMAGES, the ROWS) comes last; the object is used up by it.
 */
final class Portrait {
    /** Of the 512 calls of an object the rest is for the tale ahead of it. */
    private static final int MOST_CALLS = 400;
    private final NextNames x;
    private final List<String> lines = new ArrayList<>();

    private Portrait(NextNames x) {
        this.x = x;
    }

    /** All but status(). */
    static List<String> of(NextNames x) {
        Portrait one = new Portrait(x);
        one.face();
        one.tape();
        one.acts();
        one.images();
        one.rows();
        int calls = one.lines.size() + Checks.GLASS.length() + 1;
        if (calls > MOST_CALLS) {
            throw new IllegalStateException("a portrait took " + calls + " calls");
        }
        return one.lines;
    }

    private long tell(String name, int... args) {
        long got = Checks.answer(x, name, args);
        lines.add(Checks.called(name, args) + " = " + got);
        return got;
    }

    private void face() {
        for (int what = 0; what < 8; what++) {
            tell("count", what);
        }
        tell("fault");
        for (int i = 0; i < 7; i++) {
            tell("trace", i);
        }
        int people = (int) tell("count", 2);
        for (int p = 0; p < people; p++) {
            tell("kind", p);
            tell("person", p, 2);
            tell("person", p, 5);
            tell("dies", p);
        }
        int things = (int) tell("count", 1);
        for (int t = 0; t < things; t++) {
            tell("thing", t, 1);
            tell("thing", t, 3);
        }
        look();
    }

    /** What ACTS can change. */
    private void look() {
        tell("count", 3);
        tell("count", 4);
        int people = (int) tell("count", 2);
        for (int p = 0; p < people; p++) {
            tell("person", p, 0);
            tell("person", p, 1);
            tell("person", p, 4);
        }
        int things = (int) tell("count", 1);
        for (int t = 0; t < things; t++) {
            tell("thing", t, 0);
            tell("thing", t, 2);
        }
    }

    /** What is left on the tape is no LAND: where its FAULT is tells what stands there. */
    private void tape() {
        tell("land");
        tell("fault");
    }

    private void acts() {
        for (int i = 0; i < 25 && tell("undo") >= 0; i++) {
            if (i < 7) {
                look();
            }
        }
    }

    private void images() {
        for (int k = 0; k < 2; k++) {
            if (tell("restore", k) == 1) {
                tell("count", 5);
                tell("kind", 0);
                look();
            }
        }
    }

    private void rows() {
        if (Checks.read(x, Checks.GLASS) != 1) {
            throw new IllegalStateException("the tape was not empty");
        }
        for (int r = 0; r < 8; r++) {
            for (int i = 0; i < 4; i++) {
                lines.add("item " + i + " of " + r + " = " + Checks.item(x, r, i));
            }
            tell("set", r, 0, 40000);
            tell("drop", r);
        }
    }
}
