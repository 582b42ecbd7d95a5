/** Promises 36 to 39. */
public final class AsksTest {
    private static final Checks C = new Checks();
    private static final String ALL = "n16,2;t9,0;t8,1;w1,5,1;k1,6,1;b1,7,1;s1,2,1;r1,3,1;";

    public static void main(String[] args) {
        kind();
        as();
        ask();
        trace();
        C.end();
    }

    private static void kind() {
        NextNames x = Checks.land(ALL);
        for (int p = 0; p < 5; p++) {
            C.due("kind of " + p, x.kind(p), p + 1);
        }
        C.due("nobody", x.kind(5), Checks.BAD);
        C.due("nobody", x.kind(-1), Checks.BAD);
    }

    private static void as() {
        NextNames x = Checks.land(ALL);
        int[] kinds = {1 | 2, 1 | 2 | 4, 1 | 2 | 8, 1 | 16, 1 | 16 | 32};
        for (int p = 0; p < 5; p++) {
            for (int k = 0; k < 6; k++) {
                C.due("as(" + p + ", " + k + ")", x.as(p, k), (kinds[p] >> k & 1) == 1 ? p : Checks.KIND);
            }
        }
        C.due("nobody", x.as(5, 0), Checks.BAD);
        C.due("kind 6", x.as(0, 6), Checks.BAD);
        C.due("kind -1", x.as(0, -1), Checks.BAD);
    }

    private static void ask(NextNames x, int one, int what, int answer, int... bodies) {
        String told = "ask(" + one + ", " + what + ")";
        C.due(told, x.ask(one, what), answer);
        for (int i = 0; i < bodies.length; i++) {
            C.due(told + " trace " + i, x.trace(i), bodies[i]);
        }
        C.due(told + " the trace's end", x.trace(bodies.length), Checks.NONE);
    }

    private static void ask() {
        NextNames x = Checks.land(ALL);
        ask(x, 0, 0, 1 + 0 + 5, 11, 10, 21, 20);
        ask(x, 0, 1, 0 + 5, 21, 20);
        ask(x, 1, 0, -(1 + 2 * (1 + 6)), 12, 11, 10, 24, 21, 20);
        ask(x, 1, 1, 2 * (1 + 6), 24, 21, 20);
        ask(x, 2, 0, 1 + 2 + 7 - 1000, 11, 10, 22, 21, 20);
        ask(x, 2, 1, 2 + 7 - 1000, 22, 21, 20);
        ask(x, 3, 0, 1 - 100, 13, 10);
        ask(x, 3, 1, 3 - (1 - 100), 23, 20, 13, 10);
        ask(x, 4, 0, 2 * (1 - 100), 14, 13, 10);
        ask(x, 4, 1, 4 - 2 * (1 - 100), 23, 20, 14, 13, 10);
        C.due("nobody", x.ask(5, 0), Checks.BAD);
        C.due("what 2", x.ask(0, 2), Checks.BAD);
        C.due("what -1", x.ask(0, -1), Checks.BAD);
        C.due("what is refused leaves the trace", x.trace(2), 14);
        x.call(0, 0);
        x.move(0, 9);
        x.days(1);
        C.due("he went on", x.person(0, 1), 10);
        ask(x, 0, 0, 0 + 0 + 10, 11, 10, 21, 20);
        x.move(0, 8);
        x.days(1);
        C.due("he is dead", x.person(0, 3), 0);
        ask(x, 0, 1, 0 + 9, 21, 20);
    }

    private static void trace() {
        NextNames x = new NextNames();
        C.due("at first", x.trace(0), Checks.NONE);
        C.due("-1", x.trace(-1), Checks.NONE);
        Checks.read(x, ALL);
        C.due("nobody", x.ask(9, 0), Checks.BAD);
        C.due("none yet", x.trace(0), Checks.NONE);
        x.ask(1, 0);
        C.due("-1", x.trace(-1), Checks.NONE);
        C.due("16", x.trace(16), Checks.NONE);
        C.due("greatest", x.trace(Integer.MAX_VALUE), Checks.NONE);
        C.due("least", x.trace(Integer.MIN_VALUE), Checks.NONE);
        Checks.read(x, ALL);
        C.due("it stays", x.trace(5), 20);
    }
}
