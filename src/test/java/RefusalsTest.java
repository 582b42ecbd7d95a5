import java.util.List;
import java.util.function.Consumer;

/**
 * "What is refused, or found, changes nothing but status()", and FORETOLD: "nothing changes". Each such call is made
 * behind a tale; what can be asked then is held against what can be asked behind the tale alone.
 */
public final class RefusalsTest {
    private static final Checks C = new Checks();
    private static final int LEAST = Checks.LEAST, MOST = Checks.MOST;
    private final String name;
    private final Consumer<NextNames> tale;
    private final List<String> due;
    private final int status;

    private RefusalsTest(String name, Consumer<NextNames> tale) {
        this.name = name;
        this.tale = tale;
        NextNames x = behind();
        status = x.status();
        due = Portrait.of(x);
    }

    public static void main(String[] args) {
        RefusalsTest lived = new RefusalsTest("lived", RefusalsTest::live);
        RefusalsTest unborn = new RefusalsTest("no land", RefusalsTest::begin);
        RefusalsTest late = new RefusalsTest("day 990", RefusalsTest::growLate);
        RefusalsTest full = new RefusalsTest("full tape", RefusalsTest::fillTape);
        lived.portraitSeesAll();
        lived.rows();
        lived.texts();
        lived.acts();
        lived.foretold();
        lived.told();
        lived.asked();
        lived.faultLeavesAll();
        lived.foretoldChangesNothing();
        unborn.withoutALand();
        late.lastDay();
        full.fullTape();
        C.end();
    }

    /** ROWS 0 to 2 of every LANE, 7 missing; a FAULT; two bytes on the tape; a FINDING. */
    private static void begin(NextNames x) {
        x.row(0, 0, 3);
        x.set(0, 0, 4);
        x.set(0, 1, -1);
        x.set(0, 2, 8);
        x.row(1, 1, 2);
        x.set(1, 1, 5);
        x.row(2, 2, 0);
        Checks.read(x, "n1");
        Checks.feed(x, "n9");
        x.set(0, 3, 1);
    }

    /** A LAND with six ACTS that can be undone, one dead (5), one kept in (0), THING 2 nailed down, IMAGE 0, a TRACE. */
    private static void live(NextNames x) {
        Checks.read(x, "n8,3;t2,1;t5,0;t0,3;w0,1,1;k1,3,2;b2,6,1;s0,4,0;r1,5,2;w1,4,1;");
        x.image(0);
        x.days(1);
        x.nail(2, 1);
        x.keepIn(0, 7);
        x.call(3, 2);
        x.move(1, 0);
        x.carry(0, 6);
        x.ask(1, 0);
        begin(x);
    }

    private static void growLate(NextNames x) {
        Checks.read(x, "n6,0;t3,1;s0,0,0;k0,1,1;");
        for (int i = 0; i < 41; i++) {
            x.days(24);
        }
        x.days(6);
        x.image(1);
    }

    private static void fillTape(NextNames x) {
        Checks.read(x, "n6,0;t3,1;s0,0,0;");
        x.carry(0, 4);
        Checks.feed(x, "n9,9;" + "t0,0;".repeat(19));
    }

    private NextNames behind() {
        NextNames x = new NextNames();
        tale.accept(x);
        return x;
    }

    /** The call is answered so; status() tells what it found, or is as it was; nothing else is changed. */
    private void refuses(long want, String call, int... args) {
        boolean finds = want <= Checks.NULL && want >= Checks.STORE;
        leavesAll(want, finds ? (int) (-1000010 - want) : status, call, args);
    }

    private void leavesAll(long want, int statusThen, String call, int... args) {
        String told = name + ": " + Checks.called(call, args);
        NextNames x = behind();
        C.due(told, Checks.answer(x, call, args), want);
        C.due(told + ": status()", x.status(), statusThen);
        same(told, x);
    }

    private void same(String told, NextNames x) {
        List<String> got = Portrait.of(x);
        int at = 0;
        while (at < due.size() && at < got.size() && due.get(at).equals(got.get(at))) {
            at++;
        }
        boolean same = at == due.size() && at == got.size();
        C.holds(told + " changes nothing" + (same ? "" : ", but " + due.subList(at, Math.min(at + 1, due.size()))), same);
    }

    /** A portrait that does not see what is done would be of no use. */
    private void portraitSeesAll() {
        String[] calls = {"row", "set", "copy", "drop", "feed", "land", "undo", "days", "carry", "nail", "nail", "keepIn",
            "call", "move", "image", "image", "restore", "ask", "row", "set", "copy"};
        int[][] args = {{7, 0, 0}, {0, 2, 7}, {0, 0, 0, 1, 2}, {2}, {'n'}, {}, {}, {1}, {0, 5}, {2, 0}, {1, 1}, {0, 6},
            {3, 1}, {1, 7}, {0}, {1}, {0}, {4, 1}, {0, 1, 3}, {1, 0, 1}, {0, 2, 0, 0, 1}};
        for (int k = 0; k < calls.length; k++) {
            NextNames x = behind();
            Checks.answer(x, calls[k], args[k]);
            C.holds(Checks.called(calls[k], args[k]) + " is seen", !Portrait.of(x).equals(due));
        }
        NextNames x = behind();
        C.due("who lives", x.count(4), 31);
        C.due("acts", x.count(6), 6);
        C.due("status", x.status(), 2);
    }

    /** Promises 2 to 5. */
    private void rows() {
        for (int row : new int[] {-1, 8, LEAST, MOST}) {
            refuses(Checks.BAD, "row", row, 0, 1);
            refuses(Checks.BAD, "set", row, 0, 1);
            refuses(Checks.BAD, "copy", row, 0, 0, 0, 1);
            refuses(Checks.BAD, "copy", 0, 0, row, 0, 1);
            refuses(Checks.BAD, "drop", row);
        }
        refuses(Checks.BAD, "row", 0, -1, 1);
        refuses(Checks.BAD, "row", 0, 3, 1);
        refuses(Checks.BAD, "row", 0, 0, 41);
        refuses(Checks.SIZE, "row", 0, 0, -1);
        refuses(Checks.SIZE, "row", 7, 1, LEAST);
        refuses(Checks.NULL, "set", 7, 0, 1);
        refuses(Checks.PLACE, "set", 0, -1, 1);
        refuses(Checks.PLACE, "set", 0, 3, 1);
        refuses(Checks.PLACE, "set", 2, 0, 1);
        refuses(Checks.NULL, "copy", 0, 0, 7, 0, 1);
        refuses(Checks.NULL, "copy", 7, 0, 0, 0, 1);
        refuses(Checks.STORE, "copy", 0, 0, 1, 0, 1);
        refuses(Checks.PLACE, "copy", 0, -1, 0, 0, 2);
        refuses(Checks.PLACE, "copy", 0, 0, 0, -1, 2);
        refuses(Checks.PLACE, "copy", 0, 0, 0, 1, -1);
        refuses(Checks.PLACE, "copy", 0, 0, 0, 1, 3);
        refuses(Checks.PLACE, "copy", 0, 1, 0, 0, 3);
        refuses(Checks.NULL, "drop", 7);
    }

    /** Promises 6 and 9. */
    private void texts() {
        for (int letter : new int[] {-1, 256, LEAST, MOST}) {
            refuses(Checks.BAD, "feed", letter);
        }
        RefusalsTest first = new RefusalsTest("no act", x -> Checks.read(x, "n6,0;t3,1;s0,0,0;k0,1,1;"));
        first.refuses(Checks.STATE, "undo");
        RefusalsTest undone = new RefusalsTest("all undone", x -> {
            live(x);
            for (int i = 0; i < 6; i++) {
                x.undo();
            }
        });
        undone.refuses(Checks.STATE, "undo");
    }

    /** Promises 10 to 17. */
    private void acts() {
        for (int n : new int[] {0, -1, 25, LEAST, MOST}) {
            refuses(Checks.BAD, "days", n);
        }
        for (int thing : new int[] {-1, 3, LEAST, MOST}) {
            refuses(Checks.BAD, "carry", thing, 0);
            refuses(Checks.BAD, "nail", thing, 0);
            refuses(Checks.BAD, "nail", thing, 1);
            refuses(Checks.BAD, "call", 0, thing);
            refuses(Checks.BAD, "thing", thing, 0);
        }
        for (int place : new int[] {-1, 8, LEAST, MOST}) {
            refuses(Checks.BAD, "carry", 0, place);
            refuses(Checks.BAD, "move", 0, place);
        }
        for (int person : new int[] {-1, 6, LEAST, MOST}) {
            refuses(Checks.BAD, "keepIn", person, 1);
            refuses(Checks.BAD, "call", person, 1);
            refuses(Checks.BAD, "move", person, 1);
            refuses(Checks.BAD, "person", person, 1);
        }
        for (int on : new int[] {-1, 2, LEAST, MOST}) {
            refuses(Checks.BAD, "nail", 0, on);
        }
        refuses(Checks.STATE, "nail", 0, 0);
        refuses(Checks.STATE, "nail", 2, 1);
        for (int n : new int[] {-1, 61, LEAST, MOST}) {
            refuses(Checks.BAD, "keepIn", 0, n);
        }
        refuses(Checks.STATE, "keepIn", 5, 1);
        refuses(Checks.STATE, "call", 5, 0);
        refuses(Checks.STATE, "move", 5, 0);
        refuses(Checks.BAD, "keepIn", 5, 61);
        refuses(Checks.BAD, "call", 5, 3);
        refuses(Checks.BAD, "move", 5, 8);
        refuses(Checks.BAD, "person", 0, 6);
        refuses(Checks.BAD, "person", 0, -1);
        refuses(Checks.BAD, "thing", 0, 4);
        refuses(Checks.BAD, "thing", 0, -1);
    }

    /** Promises 18 to 26. */
    private void foretold() {
        for (int person : new int[] {-1, 6}) {
            refuses(Checks.BAD, "ahead", person, 1);
            refuses(Checks.BAD, "dies", person);
            refuses(Checks.BAD, "keepDays", person, 1, 1, 0);
            refuses(Checks.BAD, "nails", person, 1, 0);
            refuses(Checks.BAD, "names", person, 1);
            refuses(Checks.BAD, "safest", person);
            refuses(Checks.BAD, "meet", person, 0);
            refuses(Checks.BAD, "meet", 0, person);
            refuses(Checks.BAD, "still", person, 1, 0);
        }
        for (int n : new int[] {-1, 61}) {
            refuses(Checks.BAD, "ahead", 0, n);
            refuses(Checks.BAD, "liveAhead", n);
            refuses(Checks.BAD, "nails", 0, n, 0);
            refuses(Checks.BAD, "names", 0, n);
            refuses(Checks.BAD, "fatal", n);
        }
        refuses(Checks.BAD, "nails", 0, 0, 0);
        refuses(Checks.BAD, "names", 0, 0);
        refuses(Checks.BAD, "fatal", 0);
        refuses(Checks.BAD, "meet", 0, 0);
        refuses(Checks.BAD, "keepDays", 0, 0, 1, 0);
        refuses(Checks.BAD, "keepDays", 0, 13, 1, 0);
        refuses(Checks.BAD, "keepDays", 0, 1, -1, 0);
        refuses(Checks.BAD, "keepDays", 0, 1, 13, 0);
        for (int what : new int[] {-1, 2}) {
            refuses(Checks.BAD, "keepDays", 0, 1, 1, what);
            refuses(Checks.BAD, "nails", 0, 1, what);
        }
        refuses(Checks.STATE, "keepDays", 5, 1, 1, 0);
        refuses(Checks.STATE, "nails", 5, 1, 0);
        refuses(Checks.STATE, "names", 5, 1);
        refuses(Checks.STATE, "safest", 5);
        refuses(Checks.BAD, "keepDays", 5, 13, 1, 0);
        refuses(Checks.BAD, "nails", 5, 61, 0);
        refuses(Checks.BAD, "names", 5, 61);
    }

    /** Promises 27 to 35. */
    private void told() {
        for (String how : new String[] {"called", "who", "steps"}) {
            refuses(Checks.BAD, how, -1, 0, 0, 1);
            refuses(Checks.BAD, how, 6, 0, 0, 1);
            refuses(Checks.BAD, how, 0, -1, 0, 1);
            refuses(Checks.BAD, how, 0, 8, 0, 1);
            refuses(Checks.BAD, how, 0, 0, 0, 0);
            refuses(Checks.BAD, how, 0, 0, 0, 13);
            refuses(Checks.NULL, how, 0, 7, 0, 1);
            refuses(Checks.PLACE, how, 0, 0, -1, 1);
            refuses(Checks.PLACE, how, 0, 0, 1, 3);
        }
        for (int what : new int[] {-1, 2}) {
            refuses(Checks.BAD, "namesakes", what);
            refuses(Checks.BAD, "still", 0, 1, what);
            refuses(Checks.BAD, "drawn", 1, 1, what);
            refuses(Checks.BAD, "image", what);
            refuses(Checks.BAD, "restore", what);
        }
        refuses(Checks.BAD, "still", 0, -1, 0);
        refuses(Checks.BAD, "still", 0, 11, 0);
        refuses(Checks.BAD, "drawn", -1, 1, 0);
        refuses(Checks.BAD, "drawn", 61, 1, 0);
        refuses(Checks.BAD, "drawn", 1, 0, 0);
        refuses(Checks.BAD, "drawn", 1, 1000000, 0);
        refuses(Checks.STATE, "restore", 1);
    }

    /** Promises 36 to 40. */
    private void asked() {
        for (int one : new int[] {-1, 6, LEAST, MOST}) {
            refuses(Checks.BAD, "kind", one);
            refuses(Checks.BAD, "as", one, 0);
            refuses(Checks.BAD, "ask", one, 0);
        }
        refuses(Checks.BAD, "as", 0, -1);
        refuses(Checks.BAD, "as", 0, 6);
        refuses(Checks.KIND, "as", 0, 5);
        refuses(Checks.KIND, "as", 4, 1);
        refuses(Checks.BAD, "ask", 0, -1);
        refuses(Checks.BAD, "ask", 0, 2);
        refuses(Checks.NONE, "trace", 6);
        refuses(Checks.NONE, "trace", -1);
        refuses(Checks.BAD, "count", -1);
        refuses(Checks.BAD, "count", 8);
    }

    /** Promise 7: "-1000100 less the place of a FAULT: all stays", but the tape, which is empty, and fault(). */
    private void faultLeavesAll() {
        String[] texts = {"", "n1", "n8,3;t2,1;t5,0;t0,3;w0,1,1;k1,3,2;b2,6,10;", "n2,0;t1,15;r0,0,9;x",
            "n2,0;t0,0;t0,0;t0,0;t0,0;t0,0;t", "n9,9;t8,0;w0,0,0;t8,0;"};
        int[] places = {0, 1, 39, 18, 30, 17};
        int[] numbers = {1, 2, 2, 1, 3, 1};
        for (int k = 0; k < texts.length; k++) {
            NextNames x = behind();
            C.due("what was left on the tape", x.land(), -1000102);
            C.due(texts[k], Checks.read(x, texts[k]), -1000100 - places[k]);
            C.due(texts[k] + ": fault", x.fault(), numbers[k]);
            C.due(texts[k] + ": tape", x.count(7), 0);
            C.due(texts[k] + ": status", x.status(), status);
            Checks.read(x, "n1");
            Checks.feed(x, "n9");
            same("the fault of " + texts[k], x);
        }
    }

    /** Part 3: "FORETOLD (nothing changes)", for the calls that are not refused, too, and for those that only ask. */
    private void foretoldChangesNothing() {
        String[] calls = {"ahead", "liveAhead", "dies", "keepDays", "keepDays", "nails", "names", "safest", "meet", "fatal",
            "namesakes", "still", "life", "drawn", "fault", "person", "thing", "kind", "trace", "count", "status"};
        int[][] args = {{2, 60}, {60}, {4}, {4, 12, 12, 0}, {0, 12, 3, 1}, {2, 60, 1}, {0, 60}, {0}, {0, 1}, {60}, {0},
            {2, 5, 1}, {}, {60, 999999, 0}, {}, {5, 1}, {0, 3}, {0}, {0}, {4}, {}};
        for (int k = 0; k < calls.length; k++) {
            leavesAll(Checks.answer(behind(), calls[k], args[k]), status, calls[k], args[k]);
        }
        for (String how : new String[] {"called", "who", "steps"}) {
            leavesAll(Checks.answer(behind(), how, 0, 0, 0, 3), 0, how, 0, 0, 0, 3);
        }
        leavesAll(3, 0, "as", 3, 4);
    }

    /** Promise 1, and each "STATE: no LAND". */
    private void withoutALand() {
        String[] states = {"days", "liveAhead", "fatal", "namesakes", "drawn", "life", "undo", "image", "restore"};
        int[][] args = {{1}, {0}, {1}, {0}, {0, 1, 0}, {}, {}, {0}, {1}};
        for (int k = 0; k < states.length; k++) {
            refuses(Checks.STATE, states[k], args[k]);
        }
        refuses(Checks.STATE, "days", 0);
        refuses(Checks.STATE, "liveAhead", 61);
        refuses(Checks.STATE, "fatal", 0);
        refuses(Checks.STATE, "namesakes", 2);
        refuses(Checks.STATE, "drawn", 61, 0, 2);
        String[] bads = {"carry", "nail", "keepIn", "call", "move", "person", "thing", "ahead", "dies", "keepDays", "nails",
            "names", "safest", "meet", "called", "who", "steps", "still", "kind", "as", "ask", "image", "restore"};
        int[][] wrong = {{0, 0}, {0, 1}, {0, 1}, {0, 0}, {0, 0}, {0, 0}, {0, 0}, {0, 0}, {0}, {0, 1, 1, 0}, {0, 1, 0},
            {0, 1}, {0}, {0, 1}, {0, 0, 0, 1}, {0, 0, 0, 1}, {0, 0, 0, 1}, {0, 5, 0}, {0}, {0, 0}, {0, 0}, {2}, {-1}};
        for (int k = 0; k < bads.length; k++) {
            refuses(Checks.BAD, bads[k], wrong[k]);
        }
    }

    /** Promise 10: "FULL: DAY would be above 999": no DAY of them goes by. */
    private void lastDay() {
        refuses(Checks.FULL, "days", 10);
        refuses(Checks.FULL, "days", 24);
        refuses(Checks.BAD, "days", 25);
        NextNames x = behind();
        C.due("up to 999", x.days(9), 0);
        C.due("day", x.count(3), 999);
    }

    /** Promise 6: "FULL": the byte does not come. */
    private void fullTape() {
        refuses(Checks.FULL, "feed", 0);
        refuses(Checks.FULL, "feed", ';');
        refuses(Checks.FULL, "feed", 255);
        refuses(Checks.BAD, "feed", 256);
    }
}
