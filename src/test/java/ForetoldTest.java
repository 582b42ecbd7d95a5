/** Promises 18 to 33: what is foretold, by lands that can be reckoned by hand. */
public final class ForetoldTest {
    private static final Checks C = new Checks();

    public static void main(String[] args) {
        ahead();
        liveAhead();
        dies();
        keepDays();
        nails();
        names();
        safest();
        meet();
        fatal();
        told();
        toldWrong();
        namesakes();
        still();
        life();
        drawn();
        C.end();
    }

    private static void ahead() {
        NextNames x = Checks.land("n6,2;t0,1;w0,2,1;w0,2,0;");
        C.due("now", x.ahead(0, 0), 2);
        C.due("7", x.ahead(0, 7), 3);
        C.due("60", x.ahead(0, 60), 2);
        C.due("1", x.ahead(1, 1), 2);
        C.due("dead then", x.ahead(1, 2), Checks.NONE);
        C.due("61", x.ahead(0, 61), Checks.BAD);
        C.due("-1", x.ahead(0, -1), Checks.BAD);
        C.due("nobody", x.ahead(2, 0), Checks.BAD);
        C.due("nobody", x.ahead(-1, 0), Checks.BAD);
        C.due("nothing changes", x.person(0, 1) + 10 * x.thing(0, 0) + 100 * x.count(3) + x.count(6), 2);
        x.keepIn(0, 3);
        C.due("kept in", x.ahead(0, 1), 2);
        C.due("the thing comes", x.ahead(0, 2), Checks.NONE);
        x.days(2);
        C.due("dead now", x.ahead(1, 0), Checks.NONE);
    }

    private static void liveAhead() {
        NextNames x = Checks.land("n6,2;t0,1;w0,2,1;w0,2,0;w0,1,0;");
        C.due("now", x.liveAhead(0), 7);
        C.due("1", x.liveAhead(1), 3);
        C.due("2", x.liveAhead(2), 1);
        C.due("60", x.liveAhead(60), 1);
        C.due("61", x.liveAhead(61), Checks.BAD);
        C.due("-1", x.liveAhead(-1), Checks.BAD);
        C.due("who lives", x.count(4), 7);
        x = Checks.land("n6,0;t0,1;w0,1,0;w0,5,0;");
        C.due("the first is dead", x.liveAhead(1), 2);
    }

    private static void dies() {
        NextNames x = Checks.land("n16,0;t0,1;w0,15,0;w0,15,1;w0,0,0;");
        C.due("15", x.dies(0), 15);
        C.due("never", x.dies(1), Checks.NONE);
        C.due("once round", x.dies(2), 16);
        C.due("nobody", x.dies(3), Checks.BAD);
        x.days(15);
        C.due("dead", x.dies(0), 0);
        x = Checks.land("n16,0;t0,0;w0,1,1;");
        x.keepIn(0, 45);
        C.due("the sixtieth day counts", x.dies(0), 60);
        x.keepIn(0, 46);
        C.due("the next does not", x.dies(0), Checks.NONE);
    }

    private static void keepDays() {
        NextNames x = Checks.land("n6,0;t3,0;w0,2,1;k0,2,1;");
        C.due("none may be kept: dies", x.keepDays(0, 3, 0, 0), 1);
        C.due("none may be kept: days", x.keepDays(0, 3, 0, 1), 0);
        C.due("one: dies", x.keepDays(0, 3, 1, 0), 2);
        C.due("one: days", x.keepDays(0, 3, 1, 1), 1);
        C.due("three: dies", x.keepDays(0, 3, 3, 0), 4);
        C.due("three: days", x.keepDays(0, 3, 3, 1), 7);
        C.due("more than there are: dies", x.keepDays(0, 3, 12, 0), 4);
        C.due("more than there are: days", x.keepDays(0, 3, 12, 1), 7);
        C.due("twelve: dies", x.keepDays(0, 12, 12, 0), 13);
        C.due("twelve: days", x.keepDays(0, 12, 12, 1), 4095);
        C.due("never: dies", x.keepDays(1, 12, 12, 0), Checks.NONE);
        C.due("never: days", x.keepDays(1, 12, 12, 1), 0);
        x.keepIn(0, 30);
        C.due("however he is kept in now", x.keepDays(0, 3, 1, 0), 2);
        C.due("n 0", x.keepDays(0, 0, 1, 0), Checks.BAD);
        C.due("n 13", x.keepDays(0, 13, 1, 0), Checks.BAD);
        C.due("m -1", x.keepDays(0, 1, -1, 0), Checks.BAD);
        C.due("m 13", x.keepDays(0, 1, 13, 0), Checks.BAD);
        C.due("what 2", x.keepDays(0, 1, 1, 2), Checks.BAD);
        C.due("what -1", x.keepDays(0, 1, 1, -1), Checks.BAD);
        C.due("nobody", x.keepDays(2, 1, 1, 0), Checks.BAD);
        x.carry(0, 2);
        x.days(1);
        C.due("dead", x.keepDays(0, 1, 1, 0), Checks.STATE);
        C.due("BAD ahead of STATE", x.keepDays(0, 1, 1, 2), Checks.BAD);
        leastDays();
    }

    private static void leastDays() {
        NextNames x = Checks.land("n6,0;t0,1;w0,1,1;");
        C.due("never: dies", x.keepDays(0, 6, 2, 0), Checks.NONE);
        C.due("never: days", x.keepDays(0, 6, 2, 1), 0);
        x = Checks.land("n5,0;t0,1;w0,3,2;");
        // One, on day 1: 3, 0, 2, 4 by 1, 2, 3, 4; on day 2: 0, 0, 2, 4. Both: 3, 3, 0, 2, 4, 1 by 1, 2, 3, 4, 0, 1.
        C.due("one: dies", x.keepDays(0, 2, 1, 0), 4);
        C.due("one: the least bits", x.keepDays(0, 2, 1, 1), 1);
        C.due("both: dies", x.keepDays(0, 2, 2, 0), 6);
        C.due("both: days", x.keepDays(0, 2, 2, 1), 3);
        x = Checks.land("n4,0;t0,2;w0,2,1;");
        // Free: day 1 thing 2, he 3; day 2 thing 0, he 0: dead. Kept in on day 1 he is struck at 2 at once. Kept in on
        // day 2: thing 0, he 3; day 3 thing 2, he 0; day 4 thing 0, he 1; day 5 thing 2, he 2: dead.
        C.due("free: dies", x.keepDays(0, 4, 0, 0), 2);
        C.due("one: dies", x.keepDays(0, 4, 1, 0), 5);
        C.due("one: days", x.keepDays(0, 4, 1, 1), 2);
    }

    private static void nails() {
        NextNames x = Checks.land("n6,0;t0,1;t5,1;t2,0;w1,1,0;w0,0,0;w2,1,1;");
        C.due("lives anyhow: how many", x.nails(0, 1, 0), 0);
        C.due("lives anyhow: which", x.nails(0, 1, 1), 0);
        C.due("his own: how many", x.nails(0, 60, 0), 1);
        C.due("his own: which", x.nails(0, 60, 1), 2);
        C.due("it stands on him: how many", x.nails(1, 60, 0), Checks.NONE);
        C.due("it stands on him: which", x.nails(1, 60, 1), Checks.NONE);
        C.due("he goes to it", x.nails(2, 1, 0), Checks.NONE);
        C.due("nailed down already", x.nail(2, 1), 4);
        C.due("no more can be done", x.nails(2, 1, 1), Checks.NONE);
        C.due("n 0", x.nails(0, 0, 0), Checks.BAD);
        C.due("n 61", x.nails(0, 61, 0), Checks.BAD);
        C.due("what 2", x.nails(0, 1, 2), Checks.BAD);
        C.due("nobody", x.nails(3, 1, 0), Checks.BAD);
        x.days(1);
        C.due("dead", x.nails(2, 1, 0), Checks.STATE);
        C.due("BAD ahead of STATE", x.nails(2, 0, 0), Checks.BAD);
    }

    private static void names() {
        NextNames x = Checks.land("n6,0;t0,1;t5,0;t2,0;s0,2,0;w0,1,1;");
        C.due("driven on, or far away", x.names(0, 1), 3);
        C.due("60", x.names(0, 60), 3);
        C.due("chased; later there; there at once", x.names(1, 1), 3);
        C.due("4", x.names(1, 4), 1);
        C.due("not the first", Checks.land("n6,0;t1,0;t3,0;s0,1,0;").names(0, 1), 2);
        C.due("n 0", x.names(0, 0), Checks.BAD);
        C.due("n 61", x.names(0, 61), Checks.BAD);
        C.due("nobody", x.names(2, 1), Checks.BAD);
        C.due("he is called as he was", x.person(1, 0), 0);
        x.call(1, 2);
        x.days(1);
        C.due("dead", x.names(1, 1), Checks.STATE);
        C.due("BAD ahead of STATE", x.names(1, 0), Checks.BAD);
    }

    private static void safest() {
        NextNames x = Checks.land("n4,0;t0,1;w0,1,0;w0,1,1;w0,2,1;");
        C.due("behind it", x.safest(0), 0);
        C.due("never, the first", x.safest(1), 1);
        x = Checks.land("n4,0;t1,0;w0,0,1;");
        C.due("three ways to go", x.safest(0), 1);
        x.keepIn(0, 60);
        C.due("kept in, the first that is free", x.safest(0), 0);
        C.due("the last", Checks.land("n2,0;t0,0;w0,0,0;").safest(0), 1);
        C.due("all alike: the first", Checks.land("n2,0;t0,1;b0,0,0;").safest(0), 0);
        C.due("nobody", x.safest(1), Checks.BAD);
        x.keepIn(0, 0);
        x.days(1);
        C.due("dead", x.safest(0), Checks.STATE);
    }

    private static void meet() {
        NextNames x = Checks.land("n6,0;t5,0;t4,0;s0,2,0;w0,0,1;s0,2,0;w1,1,1;s1,3,0;");
        C.due("now", x.meet(0, 2), 0);
        C.due("two days", x.meet(0, 1), 2);
        C.due("the other way", x.meet(1, 0), 2);
        C.due("never", x.meet(1, 3), Checks.NONE);
        C.due("ahead of his death", x.meet(3, 4), 2);
        C.due("alike", x.meet(1, 1), Checks.BAD);
        C.due("nobody", x.meet(0, 5), Checks.BAD);
        C.due("nobody", x.meet(-1, 0), Checks.BAD);
        x.days(3);
        C.due("a dead one", x.meet(3, 0), Checks.NONE);
        x = Checks.land("n4,0;t3,0;w0,0,3;s0,3,0;w0,2,1;");
        C.due("who die there do not meet", x.meet(0, 2), Checks.NONE);
        x = Checks.land("n16,0;t15,0;s0,1,0;w0,0,1;");
        x.keepIn(1, 59);
        C.due("on the sixtieth day", x.meet(0, 1), 60);
        x.keepIn(1, 60);
        C.due("behind it", x.meet(0, 1), Checks.NONE);
    }

    private static void fatal() {
        NextNames x = Checks.land("n6,2;t0,1;t3,0;t0,0;w0,2,0;w1,2,1;w2,1,0;");
        C.due("1", x.fatal(1), 2);
        C.due("2", x.fatal(2), 3);
        C.due("60", x.fatal(60), 3);
        C.due("0", x.fatal(0), Checks.BAD);
        C.due("61", x.fatal(61), Checks.BAD);
        x.days(1);
        C.due("the dead do not die again", x.fatal(60), 1);
    }

    private static void told() {
        NextNames x = Checks.land("n10,2;t0,0;t7,0;t9,0;w0,3,2;r0,4,1;");
        x.row(0, 0, 5);
        x.set(0, 1, 5);
        x.set(0, 2, 7);
        x.set(0, 3, 9);
        C.due("called: not after what is at 7, or 9", x.called(0, 0, 1, 3), 1);
        C.due("called: a day", x.called(0, 0, 1, 1), 7);
        C.due("who: goes 2 on", x.who(0, 0, 1, 3), 6);
        C.due("steps: 2", x.steps(0, 0, 1, 3), 4);
        x.set(0, 3, -1);
        C.due("called: dead behind three", x.called(0, 0, 1, 3), 4);
        x.set(0, 2, -1);
        C.due("called: dead behind two", x.called(0, 0, 1, 2), 2);
        x.row(1, 2, 12);
        for (int i = 0; i < 12; i++) {
            x.set(1, i, 4);
        }
        C.due("who stays", x.who(0, 1, 0, 12), 0);
        C.due("who stays", x.who(1, 1, 0, 12), 48);
        C.due("a rich one's step is nothing", x.steps(1, 1, 0, 12), 1023);
        x.set(1, 11, -1);
        C.due("he dies late", x.who(1, 1, 0, 12), 0);
        x.carry(0, 4);
        x.set(1, 1, 4);
        x.set(1, 2, -1);
        C.due("a rich one dies on day 2", x.who(1, 1, 0, 3), 32);
        x.set(1, 0, -1);
        C.due("a stayer at once, not back again", x.who(1, 1, 0, 3), 0);
        x.set(1, 1, -1);
        C.due("a stayer at once", x.who(1, 1, 0, 3), 16);
        x.row(2, 1, 1);
        x.set(2, 0, 300);
        C.due("no place at all", x.steps(0, 2, 0, 1), 0);
        C.due("he is what he was", x.kind(1) + 10 * x.person(1, 2), 15);
    }

    private static void toldWrong() {
        NextNames x = Checks.land("n10,2;t0,0;w0,3,2;s0,0,0;");
        x.row(0, 0, 3);
        x.row(1, 0, 40);
        for (int way = 0; way < 3; way++) {
            C.due("nobody", tell(x, way, 2, 0, 0, 1), Checks.BAD);
            C.due("row 8", tell(x, way, 0, 8, 0, 1), Checks.BAD);
            C.due("row -1", tell(x, way, 0, -1, 0, 1), Checks.BAD);
            C.due("n 0", tell(x, way, 0, 0, 0, 0), Checks.BAD);
            C.due("n 13", tell(x, way, 0, 1, 0, 13), Checks.BAD);
            C.due("BAD ahead of NULL", tell(x, way, 0, 2, 0, 13), Checks.BAD);
            C.due("missing", tell(x, way, 0, 2, -1, 1), Checks.NULL);
            C.due("i -1", tell(x, way, 0, 0, -1, 1), Checks.PLACE);
            C.due("beyond the end", tell(x, way, 0, 0, 2, 2), Checks.PLACE);
            C.due("far beyond", tell(x, way, 0, 0, Integer.MAX_VALUE, 12), Checks.PLACE);
        }
        x.days(1);
        x.set(0, 0, -1);
        x.set(0, 1, -1);
        C.due("of a dead one all names fit", x.called(1, 0, 0, 2), 1);
        C.due("of a dead one all kinds fit", x.who(1, 0, 0, 2), 62);
        C.due("of a dead one all steps fit", x.steps(1, 0, 0, 2), 1023);
        C.due("but he is not there", x.who(1, 0, 2, 1), 0);
    }

    private static int tell(NextNames x, int way, int person, int row, int i, int n) {
        return way == 0 ? x.called(person, row, i, n) : way == 1 ? x.who(person, row, i, n) : x.steps(person, row, i, n);
    }

    private static void namesakes() {
        NextNames x = Checks.land("n6,2;t0,0;t3,0;w0,1,0;s1,3,0;w1,4,0;w1,5,0;");
        C.due("how many", x.namesakes(0), 3);
        C.due("the first", x.namesakes(1), 12);
        C.due("what 2", x.namesakes(2), Checks.BAD);
        C.due("what -1", x.namesakes(-1), Checks.BAD);
        x.days(1);
        C.due("who live", x.namesakes(0), 1);
        C.due("who live", x.namesakes(1), 23);
        x.call(3, 0);
        C.due("another pair", x.namesakes(1), 3);
        x.call(0, 1);
        C.due("another pair", x.namesakes(1), 2);
        x.call(0, 0);
        x.call(3, 1);
        x.call(2, 0);
        C.due("of three", x.namesakes(0) * 100 + x.namesakes(1), 102);
        x = Checks.land("n6,2;t0,0;w0,1,0;");
        C.due("none", x.namesakes(0), 0);
        C.due("none", x.namesakes(1), Checks.NONE);
    }

    private static void still(NextNames x, int person, int p, long above, long below) {
        C.due("still " + person + ", " + p + ": above", x.still(person, p, 0), above);
        C.due("still " + person + ", " + p + ": below", x.still(person, p, 1), below);
    }

    private static void still() {
        NextNames x = Checks.land("n6,2;t0,1;t3,0;w0,1,0;w0,5,1;w1,2,1;w0,3,0;");
        still(x, 0, 0, 0, 1);
        still(x, 0, 4, 2, 5);
        still(x, 0, 5, 1, 2);
        still(x, 0, 10, 1, 1);
        still(x, 1, 0, 1, 1);
        still(x, 1, 3, 7, 10);
        still(x, 1, 10, 0, 1);
        still(x, 2, 4, 0, 1);
        still(x, 3, 7, 1, 1);
        C.due("p -1", x.still(0, -1, 0), Checks.BAD);
        C.due("p 11", x.still(0, 11, 0), Checks.BAD);
        C.due("what 2", x.still(0, 0, 2), Checks.BAD);
        C.due("nobody", x.still(4, 0, 0), Checks.BAD);
        NextNames later = Checks.land("n6,2;t0,1;w0,2,0;w0,4,1;");
        still(later, 0, 0, 1, 1);
        still(later, 1, 10, 1, 1);
        x.nail(0, 1);
        still(x, 0, 3, 1, 1);
        still(x, 1, 3, 0, 1);
        x.days(1);
        still(x, 1, 5, 0, 1);
    }

    private static void life() {
        NextNames x = Checks.land("n6,2;t0,1;w0,2,0;w0,1,1;w0,5,0;");
        C.due("2, 60, 5", x.life(), 67);
        x.days(2);
        C.due("60, 3", x.life(), 63);
        x = Checks.land("n6,2;t0,0;w0,0,0;");
        x.days(1);
        C.due("nobody", x.life(), 0);
    }

    /** From 3 on X is 50421, a multiple of 3: thing 50421 % 2 = 1 to place 50421 % 5 = 1; then 847425747, by 3 too. */
    private static void drawn() {
        NextNames x = Checks.land("n5,0;t0,0;t3,0;s1,1,0;s0,0,0;s0,1,0;");
        C.due("no day", x.drawn(0, 3, 0), 7);
        C.due("no day", x.drawn(0, 3, 1), 0);
        C.due("carried onto him", x.drawn(1, 3, 0), 4);
        C.due("two die", x.drawn(1, 3, 1), 2);
        C.due("not carried: 16807 leaves 1", x.drawn(1, 1, 0), 5);
        C.due("one dies", x.drawn(1, 1, 1), 1);
        C.due("nothing changes", x.thing(1, 0), 3);
        x.nail(1, 1);
        C.due("nailed down it is carried, too", x.drawn(1, 3, 0), 4);
        C.due("n -1", x.drawn(-1, 3, 0), Checks.BAD);
        C.due("n 61", x.drawn(61, 3, 0), Checks.BAD);
        C.due("seed 0", x.drawn(1, 0, 0), Checks.BAD);
        C.due("seed 1000000", x.drawn(1, 1000000, 0), Checks.BAD);
        C.due("what 2", x.drawn(1, 3, 2), Checks.BAD);
        C.due("who lives", x.count(4), 7);
    }
}
