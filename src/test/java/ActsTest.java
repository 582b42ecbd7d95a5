/** Promises 9 to 17: a DAY by every KIND, the other ACTS, and how they are undone. */
public final class ActsTest {
    private static final Checks C = new Checks();

    public static void main(String[] args) {
        walker();
        keptOne();
        bold();
        stayer();
        rich();
        keptIn();
        days();
        carry();
        nail();
        call();
        move();
        told();
        undo();
        forgotten();
        C.end();
    }

    private static void walker() {
        NextNames x = Checks.land("n6,2;t0,1;w0,2,0;w0,5,4;");
        C.due("day 0", x.days(1), 0);
        C.due("the thing goes", x.thing(0, 0), 1);
        C.due("round the ring", x.person(1, 1), 3);
        C.due("day 1", x.days(1), 1);
        C.due("dead", x.person(0, 3), 0);
        C.due("where he died", x.person(0, 1), 2);
        C.due("on day", x.person(0, 5), 1);
        C.due("who lives", x.count(4), 2);
        C.due("day", x.count(3), 2);
        C.due("the other", x.person(1, 1), 1);
        x.days(5);
        C.due("the dead stay where they died", x.person(0, 1), 2);
        C.due("and do not die again", x.person(0, 5), 1);
    }

    private static void keptOne() {
        NextNames x = Checks.land("n6,0;t3,0;k0,2,1;k0,1,1;k0,3,0;");
        C.due("only who stands on it dies", x.days(1), 1);
        C.due("he stays", x.person(0, 1), 2);
        C.due("he goes", x.person(1, 1), 2);
        C.due("dead", x.person(2, 3), 0);
        C.due("none", x.days(20), 0);
        C.due("he stays yet", x.person(1, 1), 2);
        x = Checks.land("n4,0;t0,1;k0,2,3;");
        x.days(1);
        C.due("the thing has gone ahead of him", x.person(0, 1), 2);
        x.days(1);
        C.due("and is gone", x.person(0, 1), 1);
    }

    private static void bold() {
        NextNames x = Checks.land("n7,0;t4,0;b0,0,2;b0,5,9;");
        C.due("twice his step", x.days(1), 1);
        C.due("where he died", x.person(0, 1), 4);
        C.due("round and round", x.person(1, 1), 2);
    }

    private static void stayer() {
        NextNames x = Checks.land("n5,0;t0,1;t1,2;s0,2,9;s1,3,9;s0,0,0;");
        C.due("one is struck", x.days(1), 1);
        C.due("driven on", x.person(0, 1), 3);
        C.due("struck, as nothing was behind him", x.person(1, 3), 0);
        C.due("not driven", x.person(2, 1), 0);
        x.days(3);
        C.due("driven all the way", x.person(0, 1), 1);
        C.due("driven over the ring's end", x.person(2, 1), 1);
    }

    private static void rich() {
        NextNames x = Checks.land("n5,3;t0,1;r0,2,0;");
        x.days(1);
        C.due("LATE places on", x.person(0, 1), 0);
        x.days(3);
        C.due("from 0 again", x.person(0, 1), 3);
        x = Checks.land("n5,3;t2,0;r0,2,0;");
        C.due("not before LATE", x.days(3), 0);
        C.due("at LATE", x.days(1), 1);
        C.due("on day", x.person(0, 5), 3);
        x = Checks.land("n5,0;t1,0;r0,2,0;");
        C.due("LATE 0 leads nowhere", x.days(1), 0);
        C.due("there", x.person(0, 1), 2);
        x = Checks.land("n2,9;t1,0;r0,0,0;");
        C.due("LATE more than the places", x.days(9), 0);
        C.due("he lives", x.person(0, 3), 1);
        C.due("he is struck", x.days(1), 1);
    }

    private static void keptIn() {
        NextNames x = Checks.land("n6,0;t3,0;w0,2,1;w0,3,1;");
        C.due("he was for none", x.keepIn(0, 2), 0);
        C.due("he was for two", x.keepIn(0, 60), 2);
        C.due("he was for sixty", x.keepIn(0, 2), 60);
        C.due("for 61", x.keepIn(0, 61), Checks.BAD);
        C.due("for -1", x.keepIn(0, -1), Checks.BAD);
        C.due("nobody", x.keepIn(2, 1), Checks.BAD);
        C.due("nobody", x.keepIn(-1, 1), Checks.BAD);
        x.keepIn(1, 3);
        C.due("kept in on one's thing", x.days(1), 1);
        C.due("there", x.person(0, 1), 2);
        C.due("a day less", x.person(0, 4), 1);
        C.due("a day less for a dead one, too", x.person(1, 4), 2);
        C.due("a dead one", x.keepIn(1, 1), Checks.STATE);
        C.due("BAD ahead of STATE", x.keepIn(1, 61), Checks.BAD);
        C.due("kept in yet", x.days(1), 0);
        C.due("no more", x.person(0, 4), 0);
        C.due("he goes", x.days(1), 1);
        C.due("to where it is", x.person(0, 1), 3);
        C.due("none", x.person(0, 4), 0);
    }

    private static void days() {
        NextNames x = Checks.land("n6,0;t3,0;s0,0,0;");
        C.due("0", x.days(0), Checks.BAD);
        C.due("25", x.days(25), Checks.BAD);
        C.due("-1", x.days(-1), Checks.BAD);
        for (int i = 0; i < 41; i++) {
            C.due("24", x.days(24), 0);
        }
        C.due("day", x.count(3), 984);
        C.due("above 999", x.days(16), Checks.FULL);
        C.due("BAD ahead of FULL", x.days(25), Checks.BAD);
        C.due("what is refused changes nothing", x.count(3), 984);
        C.due("to 999", x.days(15), 0);
        C.due("day", x.count(3), 999);
        C.due("one more", x.days(1), Checks.FULL);
        C.due("acts", x.count(6), 24);
        C.due("carried on the last day", x.carry(0, 0), 3);
        C.due("foretold beyond it", x.dies(0), 1);
    }

    private static void carry() {
        NextNames x = Checks.land("n6,0;t3,0;t1,1;s0,0,0;");
        C.due("where it was", x.carry(0, 5), 3);
        C.due("to where it is", x.carry(0, 5), 5);
        C.due("acts", x.count(6), 2);
        C.due("where it is", x.thing(0, 0), 5);
        C.due("no thing", x.carry(2, 0), Checks.BAD);
        C.due("no thing", x.carry(-1, 0), Checks.BAD);
        C.due("no place", x.carry(0, 6), Checks.BAD);
        C.due("no place", x.carry(0, -1), Checks.BAD);
        x.nail(1, 1);
        C.due("nailed down it is carried, too", x.carry(1, 2), 1);
        C.due("onto one", x.carry(0, 0), 5);
        C.due("nobody dies ahead of a day", x.person(0, 3), 1);
        C.due("and then", x.days(1), 1);
    }

    private static void nail() {
        NextNames x = Checks.land("n6,0;t3,1;t1,1;s0,0,0;");
        C.due("not nailed", x.nail(1, 0), Checks.STATE);
        C.due("nailed", x.nail(1, 1), 2);
        C.due("nailed already", x.nail(1, 1), Checks.STATE);
        C.due("both", x.nail(0, 1), 3);
        C.due("no more", x.nail(1, 0), 1);
        C.due("told", x.thing(0, 2), 1);
        C.due("told", x.thing(1, 2), 0);
        C.due("no thing", x.nail(2, 1), Checks.BAD);
        C.due("on 2", x.nail(0, 2), Checks.BAD);
        C.due("on -1", x.nail(0, -1), Checks.BAD);
        C.due("acts", x.count(6), 3);
        x.days(2);
        C.due("it stands", x.thing(0, 0), 3);
        C.due("it goes", x.thing(1, 0), 3);
    }

    private static void call() {
        NextNames x = Checks.land("n6,0;t3,0;t1,0;s0,0,0;s1,1,0;");
        C.due("after which he was", x.call(0, 1), 0);
        C.due("now", x.person(0, 0), 1);
        C.due("who are called so", x.thing(1, 3), 3);
        C.due("nobody", x.thing(0, 3), 0);
        C.due("the same again", x.call(0, 1), 1);
        C.due("no thing", x.call(0, 2), Checks.BAD);
        C.due("no thing", x.call(0, -1), Checks.BAD);
        C.due("nobody", x.call(2, 0), Checks.BAD);
        x.days(1);
        C.due("dead", x.call(1, 0), Checks.STATE);
        C.due("BAD ahead of STATE", x.call(1, 2), Checks.BAD);
        C.due("the dead are called so yet", x.thing(1, 3), 3);
    }

    private static void move() {
        NextNames x = Checks.land("n6,0;t3,0;s0,0,0;s0,3,0;");
        C.due("where he was", x.move(0, 5), 0);
        C.due("where he is", x.person(0, 1), 5);
        C.due("no place", x.move(0, 6), Checks.BAD);
        C.due("no place", x.move(0, -1), Checks.BAD);
        C.due("nobody", x.move(2, 0), Checks.BAD);
        x.days(1);
        C.due("dead", x.move(1, 0), Checks.STATE);
        C.due("BAD ahead of STATE", x.move(1, 6), Checks.BAD);
    }

    private static void told() {
        NextNames x = Checks.land("n6,0;t3,7;s0,0,8;");
        C.due("step", x.person(0, 2), 8);
        C.due("lives", x.person(0, 3), 1);
        C.due("kept in", x.person(0, 4), 0);
        C.due("died", x.person(0, 5), Checks.NONE);
        C.due("what 6", x.person(0, 6), Checks.BAD);
        C.due("what -1", x.person(0, -1), Checks.BAD);
        C.due("nobody", x.person(1, 0), Checks.BAD);
        C.due("goes", x.thing(0, 1), 7);
        C.due("what 4", x.thing(0, 4), Checks.BAD);
        C.due("what -1", x.thing(0, -1), Checks.BAD);
        C.due("no thing", x.thing(1, 0), Checks.BAD);
    }

    private static void undo() {
        NextNames x = Checks.land("n6,0;t3,1;t0,2;w0,2,2;w1,0,1;");
        C.due("none", x.undo(), Checks.STATE);
        x.carry(0, 5);
        x.nail(1, 1);
        x.keepIn(0, 4);
        x.call(0, 1);
        x.move(0, 0);
        C.due("died", x.days(2), 1);
        C.due("acts", x.count(6), 7);
        C.due("a day", x.undo(), 6);
        C.due("day", x.count(3), 1);
        C.due("thing", x.thing(0, 0), 0);
        C.due("kept in", x.person(0, 4), 3);
        C.due("the other day", x.undo(), 5);
        C.due("all live", x.count(4), 3);
        C.due("nobody died", x.person(0, 5), Checks.NONE);
        C.due("a move", x.undo(), 4);
        C.due("place", x.person(0, 1), 2);
        C.due("a call", x.undo(), 3);
        C.due("name", x.person(0, 0), 0);
        C.due("a keeping", x.undo(), 2);
        C.due("kept in", x.person(0, 4), 0);
        C.due("a nail", x.undo(), 1);
        C.due("nailed", x.thing(1, 2), 0);
        C.due("a carrying", x.undo(), 0);
        C.due("thing", x.thing(0, 0), 3);
        C.due("none", x.undo(), Checks.STATE);
        x.keepIn(0, 99);
        x.nail(0, 0);
        C.due("what is refused is no act", x.count(6), 0);
    }

    private static void forgotten() {
        NextNames x = Checks.land("n16,0;t0,0;s0,8,0;");
        for (int i = 1; i <= 30; i++) {
            x.carry(0, i % 8);
        }
        C.due("24 at most", x.count(6), 24);
        for (int left = 23; left >= 0; left--) {
            C.due("undo", x.undo(), left);
            C.due("thing", x.thing(0, 0), (left + 6) % 8);
        }
        C.due("the older are forgotten", x.undo(), Checks.STATE);
        x.days(24);
        x.carry(0, 1);
        C.due("acts", x.count(6), 24);
        for (int i = 0; i < 24; i++) {
            x.undo();
        }
        C.due("the first day is forgotten", x.count(3), 1);
    }
}
