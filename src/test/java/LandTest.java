/** Promises 1, 6 to 8, and of 16, 17, 40 what a LAND is as it was read. */
public final class LandTest {
    private static final Checks C = new Checks();

    public static void main(String[] args) {
        fresh();
        feed();
        sound();
        faultsOfLaw();
        faultsOfThings();
        faultsOfPeople();
        faultsOfTokens();
        afterwards();
        C.end();
    }

    private static void fresh() {
        NextNames x = new NextNames();
        for (int what = 0; what < 8; what++) {
            C.due("new: count " + what, x.count(what), 0);
        }
        C.due("count -1", x.count(-1), Checks.BAD);
        C.due("count 8", x.count(8), Checks.BAD);
        C.due("fault before one", x.fault(), 0);
        C.due("no land: days", x.days(0), Checks.STATE);
        C.due("no land: liveAhead", x.liveAhead(61), Checks.STATE);
        C.due("no land: fatal", x.fatal(0), Checks.STATE);
        C.due("no land: namesakes", x.namesakes(2), Checks.STATE);
        C.due("no land: drawn", x.drawn(61, 0, 2), Checks.STATE);
        C.due("no land: life", x.life(), Checks.STATE);
        C.due("no land: person", x.person(0, 0), Checks.BAD);
        C.due("no land: thing", x.thing(0, 0), Checks.BAD);
    }

    private static void feed() {
        NextNames x = new NextNames();
        C.due("feed -1", x.feed(-1), Checks.BAD);
        C.due("feed 256", x.feed(256), Checks.BAD);
        C.due("feed 0", x.feed(0), 1);
        C.due("feed 255", x.feed(255), 2);
        for (int i = 3; i <= 100; i++) {
            C.due("feed", x.feed('a'), i);
        }
        C.due("the tape is full", x.feed('a'), Checks.FULL);
        C.due("BAD ahead of FULL", x.feed(256), Checks.BAD);
        C.due("bytes", x.count(7), 100);
        C.due("land", x.land(), -1000100);
        C.due("the tape is empty then", x.count(7), 0);
    }

    private static void sound() {
        NextNames x = new NextNames();
        C.due("land", Checks.read(x, "n16,9;t15,15;t00,07;w1,15,9;k0,0,0;b0,01,1;s1,2,2;r1,3,3;"), 5);
        C.due("things", x.count(1), 2);
        C.due("people", x.count(2), 5);
        C.due("day", x.count(3), 0);
        C.due("who lives", x.count(4), 31);
        C.due("places", x.count(5), 16);
        C.due("acts", x.count(6), 0);
        C.due("bytes", x.count(7), 0);
        C.due("thing 0: place", x.thing(0, 0), 15);
        C.due("thing 0: goes", x.thing(0, 1), 15);
        C.due("thing 1: place", x.thing(1, 0), 0);
        C.due("thing 1: goes", x.thing(1, 1), 7);
        C.due("thing 1: nailed", x.thing(1, 2), 0);
        C.due("thing 1: who is called so", x.thing(1, 3), 25);
        C.due("person 0: name", x.person(0, 0), 1);
        C.due("person 0: place", x.person(0, 1), 15);
        C.due("person 0: step", x.person(0, 2), 9);
        C.due("person 2: place", x.person(2, 1), 1);
        C.due("no fault", x.fault(), 0);
        C.due("7 people, 5 things", Checks.read(x, "n2,0;t0,0;t0,0;t0,0;t0,0;t1,0;"
            + "w4,0,0;w0,0,0;w0,0,0;w0,0,0;w0,0,0;w0,0,0;w0,1,1;"), 7);
        C.due("all live, on their things too", x.count(4), 127);
        C.due("things", x.count(1), 5);
    }

    private static void fault(String text, int place, int number) {
        NextNames x = new NextNames();
        C.due(text + " land", Checks.read(x, text), -1000100 - place);
        C.due(text + " fault", x.fault(), number);
        C.due(text + " no land", x.count(5), 0);
        C.due(text + " bytes", x.count(7), 0);
    }

    private static void faultsOfLaw() {
        fault("", 0, 1);
        fault("t", 0, 1);
        fault("5,0;", 0, 1);
        fault("n", 1, 1);
        fault("n,", 1, 1);
        fault("n1,0;", 1, 2);
        fault("n17,0;", 1, 2);
        fault("n2", 2, 1);
        fault("n2;", 2, 1);
        fault("n2,", 3, 1);
        fault("n2,10;", 3, 2);
        fault("n2,9", 4, 1);
        fault("n2,9,", 4, 1);
        fault("n2,9;", 5, 1);
        fault("n2,9;n", 5, 1);
        fault("n2,9;w0,0,0;", 5, 1);
    }

    private static void faultsOfThings() {
        fault("n2,9;t2,0;", 6, 2);
        fault("n16,0;t16,0;", 7, 2);
        fault("n2,9;t1,16;", 8, 2);
        fault("n2,9;t1;", 7, 1);
        fault("n2,9;t1,1;", 10, 1);
        fault("n2,9;t1,1;;", 10, 1);
        fault("n2,9;t1,1;x", 10, 1);
        fault("n2,9;t1,1;t1,1;t1,1;t1,1;t1,1;t1,1;", 30, 3);
        fault("n2,9;t1,1;t1,1;t1,1;t1,1;t1,1;ttt", 30, 3);
    }

    private static void faultsOfPeople() {
        fault("n2,9;t1,1;w1,0,0;", 11, 2);
        fault("n2,9;t1,1;w0,2,0;", 13, 2);
        fault("n2,9;t1,1;w0,0,10;", 15, 2);
        fault("n2,9;t1,1;w0,0;", 14, 1);
        fault("n2,9;t1,1;w0,0,0", 16, 1);
        fault("n2,9;t1,1;w0,0,0;t1,1;", 17, 1);
        fault("n2,9;t1,1;w0,0,0;;", 17, 1);
        fault("n2,9;t1,1;w0,0,0;n", 17, 1);
        String person = "w0,0,0;";
        fault("n2,9;t1,1;" + person.repeat(8), 59, 3);
        fault("n2,9;t1,1;" + person.repeat(7) + "r", 59, 3);
        fault("n2,9;t1,1;" + person.repeat(7) + "t", 59, 1);
    }

    private static void faultsOfTokens() {
        fault("N2,9;", 0, 1);
        fault(" n2,9;", 0, 1);
        fault("n 2,9;", 1, 1);
        fault("n002,9;", 1, 1);
        fault("n0002,9;", 1, 1);
        fault("n2,9;t1,015;", 8, 1);
        fault("n2,9;t1,1;w0,0,0;" + (char) 0, 17, 1);
        fault("n2,9;t1,1;w0,0,0;" + (char) 1, 17, 1);
        fault("n2,9;t1,1;w0,0,0;" + (char) 255, 17, 1);
        fault("n2" + (char) 1 + "9;", 2, 1);
        fault("n" + (char) 1, 1, 1);
        fault("n1 ", 1, 2);
        fault("n2,9 ", 4, 1);
        fault("n2,9;t1,1;w0,0,0;1", 17, 1);
        NextNames x = new NextNames();
        Checks.read(x, "n2,12");
        C.due("what stood on the tape before is gone", Checks.read(x, "n2,1"), -1000104);
        String full = "n16,09;" + "t15,15;".repeat(5) + "w00,15,09;".repeat(5) + "w0,15,09";
        C.due("a full tape", full.length(), 100);
        C.due("that ends with a figure", Checks.read(x, full), -1000200);
        C.due("its number", x.fault(), 1);
    }

    private static void afterwards() {
        NextNames x = Checks.land("n5,1;t2,1;w0,0,1;s0,1,0;");
        x.carry(0, 4);
        C.due("a fault", Checks.read(x, "n9,99;"), -1000103);
        C.due("its number", x.fault(), 2);
        C.due("all stays: places", x.count(5), 5);
        C.due("all stays: thing", x.thing(0, 0), 4);
        C.due("all stays: acts", x.count(6), 1);
        x.nail(0, 1);
        x.keepIn(0, 3);
        x.days(2);
        C.due("another land", Checks.read(x, "n3,0;t1,1;w0,2,0;"), 1);
        C.due("day", x.count(3), 0);
        C.due("who lives", x.count(4), 1);
        C.due("places", x.count(5), 3);
        C.due("no act", x.count(6), 0);
        C.due("nothing to undo", x.undo(), Checks.STATE);
        C.due("nothing is nailed down", x.thing(0, 2), 0);
        C.due("nobody is kept in", x.person(0, 4), 0);
        C.due("nobody died", x.person(0, 5), Checks.NONE);
        C.due("the latest fault is told yet", x.fault(), 2);
        C.due("there is no person 1", x.person(1, 0), Checks.BAD);
    }
}
