/** The boundary cases of promises 36 to 40: a method for each sentence that names one. */
public final class EdgeAsksTest {
    private static final Checks C = new Checks();
    /** One of each KIND, 0 a walker to 4 a rich one, then a walker and a bold one. */
    private static final String ALL = "n16,2;t9,0;t8,0;w1,5,1;k1,6,1;b1,7,1;s1,2,1;r1,3,1;w0,0,0;b0,15,9;";
    private static final int[] WRONG_PEOPLE = {-1, 7, Checks.LEAST, Checks.MOST};

    public static void main(String[] args) {
        kindWithin();
        asWithin();
        asNoSuchOne();
        askWithin();
        askOfTheFirstAndTheLast();
        askOfADeadOne();
        traceIsEmptyAtFirst();
        traceWithin();
        traceIsEmptyAheadOfAnAsk();
        traceIsLeft();
        countWithin();
        countsAtTheirMost();
        C.end();
    }

    /** Promise 36: "The KIND of a PERSON, as told (1 to 5). BAD." */
    private static void kindWithin() {
        NextNames x = Checks.land(ALL);
        int[] due = {1, 2, 3, 4, 5, 1, 3};
        for (int p = 0; p < 7; p++) {
            C.due("kind of " + p, x.kind(p), due[p]);
        }
        for (int p : WRONG_PEOPLE) {
            C.due("kind of " + p, x.kind(p), Checks.BAD);
        }
        C.due("no second", Checks.land("n2,0;t0,0;r0,0,0;").kind(1), Checks.BAD);
        C.due("no land", new NextNames().kind(0), Checks.BAD);
        x.days(24);
        C.due("of a dead one", x.kind(0), 1);
    }

    /** Promise 37: "a KIND (0 .. 5): its number. BAD". */
    private static void asWithin() {
        NextNames x = Checks.land(ALL);
        C.due("the first as a person", x.as(0, 0), 0);
        C.due("the last as a person", x.as(6, 0), 6);
        C.due("the rich one as a rich one", x.as(4, 5), 4);
        for (int kind : new int[] {-1, 6, Checks.LEAST, Checks.MOST}) {
            C.due("as " + kind, x.as(4, kind), Checks.BAD);
        }
        for (int p : WRONG_PEOPLE) {
            for (int kind = 0; kind <= 5; kind++) {
                C.due(p + " as " + kind, x.as(p, kind), Checks.BAD);
            }
        }
        C.due("no land", new NextNames().as(0, 0), Checks.BAD);
    }

    /** Promise 37: "KIND: it is no such one." */
    private static void asNoSuchOne() {
        NextNames x = Checks.land(ALL);
        String[] kinds = {"01", "012", "013", "04", "045"};
        for (int p = 0; p < 5; p++) {
            for (int kind = 0; kind <= 5; kind++) {
                boolean is = kinds[p].indexOf((char) ('0' + kind)) >= 0;
                C.due(p + " as " + kind, x.as(p, kind), is ? p : Checks.KIND);
                C.due("its finding", x.status(), is ? 0 : 3);
            }
        }
    }

    /** Promise 38: "An ASK (0, 1) of a PERSON. BAD." */
    private static void askWithin() {
        NextNames x = Checks.land(ALL);
        C.due("size", x.ask(0, 0), 1 + 0 + 5);
        C.due("mark", x.ask(0, 1), 0 + 5);
        for (int what : new int[] {-1, 2, Checks.LEAST, Checks.MOST}) {
            C.due("ask " + what, x.ask(0, what), Checks.BAD);
        }
        for (int p : WRONG_PEOPLE) {
            C.due("of " + p, x.ask(p, 0), Checks.BAD);
            C.due("of " + p, x.ask(p, 1), Checks.BAD);
        }
        C.due("no land", new NextNames().ask(0, 0), Checks.BAD);
    }

    /** Part 4, of PERSON 0 called after THING 0 at PLACE 0, and of the last at the last PLACE. */
    private static void askOfTheFirstAndTheLast() {
        NextNames x = Checks.land("n16,0;t0,0;t1,0;t2,0;t3,0;t4,0;k0,0,0;k0,0,0;r0,0,0;w0,0,0;s4,15,0;b4,15,0;k4,15,0;");
        C.due("0: size", x.ask(0, 0), 0);
        C.due("0: mark", x.ask(0, 1), 0);
        C.due("4: size", x.ask(4, 0), 4 - 100);
        C.due("4: mark", x.ask(4, 1), 4 + 96);
        C.due("5: size", x.ask(5, 0), 4 + 5 + 15 - 1000);
        C.due("5: mark", x.ask(5, 1), 5 + 15 - 1000);
        C.due("6: size", x.ask(6, 0), -(4 + 2 * (6 + 15)));
        C.due("6: mark", x.ask(6, 1), 2 * (6 + 15));
        C.due("2: size", x.ask(2, 0), -200);
        C.due("2: mark", x.ask(2, 1), 2 + 200);
    }

    /** Part 4: "his PLACE (of a dead one where he died)". */
    private static void askOfADeadOne() {
        NextNames x = Checks.land("n16,0;t0,0;w0,15,1;k0,0,0;");
        C.due("alive", x.ask(0, 1), 15);
        C.due("both die", x.days(1), 2);
        C.due("dead at 0", x.ask(0, 1), 0);
        x.carry(0, 7);
        x.days(3);
        C.due("dead at 0, yet", x.ask(0, 1), 0);
        C.due("dead at 0", x.ask(1, 1), 2);
        C.due("his size", x.ask(1, 0), -2);
    }

    /** Promise 39: "NONE": nothing was asked. */
    private static void traceIsEmptyAtFirst() {
        NextNames x = new NextNames();
        for (int i : new int[] {0, 1, 15, 16, -1, Checks.LEAST, Checks.MOST}) {
            C.due("at first " + i, x.trace(i), Checks.NONE);
        }
        Checks.read(x, ALL);
        C.due("of a land", x.trace(0), Checks.NONE);
        x.ask(7, 0);
        x.ask(0, 2);
        C.due("behind what was refused", x.trace(0), Checks.NONE);
    }

    /** Promise 39: "Number i of THE TRACE; NONE." */
    private static void traceWithin() {
        NextNames x = Checks.land(ALL);
        x.ask(1, 0);
        int[] due = {12, 11, 10, 24, 21, 20};
        for (int i = 0; i < 6; i++) {
            C.due("the longest " + i, x.trace(i), due[i]);
        }
        for (int i : new int[] {6, 7, 15, 16, 17, -1, Checks.LEAST, Checks.MOST}) {
            C.due("the longest " + i, x.trace(i), Checks.NONE);
        }
        x.ask(5, 1);
        C.due("the shortest 0", x.trace(0), 21);
        C.due("the shortest 1", x.trace(1), 20);
        C.due("the shortest 2", x.trace(2), Checks.NONE);
        C.due("the shortest -1", x.trace(-1), Checks.NONE);
    }

    /** Promise 38: "THE TRACE is empty ahead of it." */
    private static void traceIsEmptyAheadOfAnAsk() {
        NextNames x = Checks.land(ALL);
        for (int turn = 0; turn < 20; turn++) {
            C.due("size", x.ask(3, 0), 1 - 100);
            C.due("0", x.trace(0), 13);
            C.due("1", x.trace(1), 10);
            C.due("2", x.trace(2), Checks.NONE);
        }
    }

    /** Terms: "What is refused .. changes nothing": an ask that is BAD leaves THE TRACE, and so do other calls. */
    private static void traceIsLeft() {
        NextNames x = Checks.land(ALL);
        x.ask(4, 0);
        x.ask(7, 0);
        x.ask(-1, 1);
        x.ask(0, 2);
        x.kind(0);
        x.as(0, 0);
        x.as(0, 5);
        x.days(1);
        x.undo();
        x.image(0);
        x.restore(0);
        x.land();
        Checks.read(x, ALL);
        C.due("0", x.trace(0), 14);
        C.due("1", x.trace(1), 13);
        C.due("2", x.trace(2), 10);
        C.due("3", x.trace(3), Checks.NONE);
    }

    /** Promise 40: "0 .. 7 .. BAD." */
    private static void countWithin() {
        NextNames x = Checks.land(ALL);
        x.row(3, 0, 0);
        x.days(2);
        x.feed('n');
        int[] due = {1, 2, 7, 2, 127, 16, 2, 1};
        for (int what = 0; what < 8; what++) {
            C.due("what " + what, x.count(what), due[what]);
        }
        for (int what : new int[] {-1, 8, Checks.LEAST, Checks.MOST}) {
            C.due("what " + what, x.count(what), Checks.BAD);
            C.due("no land: what " + what, new NextNames().count(what), Checks.BAD);
        }
    }

    /** Promise 40, each as great as the document lets it be. */
    private static void countsAtTheirMost() {
        NextNames x = Checks.land("n16,0;t0,0;t1,0;t2,0;t3,0;t4,0;" + "s0,5,0;".repeat(7));
        for (int r = 0; r < 8; r++) {
            x.row(r, 2, 40);
        }
        for (int i = 0; i < 42; i++) {
            x.days(i < 41 ? 24 : 15);
        }
        for (int i = 0; i < 101; i++) {
            x.feed('x');
        }
        int[] due = {8, 5, 7, 999, 127, 16, 24, 100};
        for (int what = 0; what < 8; what++) {
            C.due("what " + what, x.count(what), due[what]);
        }
    }
}
