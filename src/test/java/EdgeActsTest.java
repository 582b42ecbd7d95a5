/** The boundary cases of promises 9 to 17, and of a DAY: a method for each sentence that names one. */
public final class EdgeActsTest {
    private static final Checks C = new Checks();
    /** One who stays at 0, on a ring of 6, nothing comes near him. */
    private static final String QUIET = "n6,0;t3,0;s0,0,0;";

    public static void main(String[] args) {
        thingsGoRound();
        walkersGoRound();
        keptOnesGoRound();
        boldOnesGoRound();
        stayersAreDrivenRound();
        richOnesAreDrivenRound();
        twoPlaces();
        richOnesDieLate();
        dayIsOneMore();
        keptInForADayLess();
        keptInForNone();
        deadOnesStay();
        daysOfACall();
        daysWithoutALand();
        lastDay();
        noneToUndo();
        twentyFourActs();
        daysAreActs();
        undoneIsAsItWas();
        carryWithin();
        nailWithin();
        nailIsSo();
        keepInWithin();
        callWithin();
        moveWithin();
        deadOnesAreLeft();
        personWithin();
        thingWithin();
        C.end();
    }

    private static NextNames gone(String text, int days) {
        NextNames x = Checks.land(text);
        x.days(days);
        return x;
    }

    /** Part 2: "PLACES lie in a ring (the first behind the last)"; "each THING .. is GOES PLACES on". */
    private static void thingsGoRound() {
        C.due("from the last to the first", gone("n16,0;t15,1;s0,5,0;", 1).thing(0, 0), 0);
        C.due("up to the last", gone("n16,0;t0,15;s0,5,0;", 1).thing(0, 0), 15);
        C.due("one less, by 15", gone("n16,0;t15,15;s0,5,0;", 1).thing(0, 0), 14);
        C.due("once round", gone("n15,0;t4,15;s0,9,0;", 1).thing(0, 0), 4);
        C.due("seven times round two, and one", gone("n2,0;t1,15;s0,1,0;", 1).thing(0, 0), 0);
        C.due("three times round five", gone("n5,0;t4,15;s0,1,0;", 1).thing(0, 0), 4);
        C.due("five times round three", gone("n3,0;t2,15;s0,1,0;", 24).thing(0, 0), 2);
        C.due("it stands", gone("n16,0;t15,0;s0,5,0;", 24).thing(0, 0), 15);
        NextNames x = gone("n16,0;t0,1;t1,2;t2,3;t3,4;t15,5;s0,12,0;", 1);
        int[] due = {1, 3, 5, 7, 4};
        for (int t = 0; t < 5; t++) {
            C.due("thing " + t, x.thing(t, 0), due[t]);
        }
    }

    /** Part 2: "a walker STEP PLACES on". */
    private static void walkersGoRound() {
        C.due("from the last to the first", gone("n16,0;t7,0;w0,15,1;", 1).person(0, 1), 0);
        C.due("up to the last", gone("n16,0;t7,0;w0,6,9;", 1).person(0, 1), 15);
        C.due("over the end", gone("n16,0;t7,0;w0,15,9;", 1).person(0, 1), 8);
        C.due("once round", gone("n9,0;t7,0;w0,4,9;", 1).person(0, 1), 4);
        C.due("four times round two, and one", gone("n2,0;t1,0;w0,1,9;", 1).person(0, 1), 0);
        C.due("by 0", gone("n16,0;t7,0;w0,15,0;", 24).person(0, 1), 15);
        NextNames x = gone("n4,0;t0,0;w0,3,9;", 1);
        C.due("onto his thing at the first place", x.person(0, 1), 0);
        C.due("he is dead", x.person(0, 3), 0);
    }

    /** Part 2: "one who is kept (by KIND) so, but stays, if his THING .. is at that PLACE". */
    private static void keptOnesGoRound() {
        C.due("from the last to the first", gone("n16,0;t7,0;k0,15,1;", 1).person(0, 1), 0);
        C.due("not to the first, as it is there", gone("n16,0;t0,0;k0,15,1;", 24).person(0, 1), 15);
        C.due("he lives", gone("n16,0;t0,0;k0,15,1;", 24).person(0, 3), 1);
        C.due("over it", gone("n16,0;t0,0;k0,15,2;", 1).person(0, 1), 1);
        C.due("not to where it has come to", gone("n16,0;t15,1;k0,15,1;", 1).person(0, 1), 15);
        C.due("to where it was", gone("n16,0;t0,1;k0,15,1;", 1).person(0, 1), 0);
        C.due("by 0 he stays on it", gone("n16,0;t15,0;k0,15,0;", 1).person(0, 3), 0);
        C.due("once round he stays on it", gone("n9,0;t4,0;k0,4,9;", 1).person(0, 3), 0);
        C.due("off it", gone("n9,0;t4,0;k0,4,8;", 1).person(0, 1), 3);
        C.due("another's thing is nothing to him", gone("n16,0;t5,0;t0,0;k0,15,1;", 1).person(0, 1), 0);
    }

    /** Part 2: "a bold one twice STEP on". */
    private static void boldOnesGoRound() {
        C.due("from the last but one to the first", gone("n16,0;t7,0;b0,14,1;", 1).person(0, 1), 0);
        C.due("by 18, over the end", gone("n16,0;t7,0;b0,15,9;", 1).person(0, 1), 1);
        C.due("by 18, round two", gone("n2,0;t0,0;b0,1,9;", 24).person(0, 1), 1);
        C.due("by 18, round nine", gone("n9,0;t0,0;b0,5,9;", 1).person(0, 1), 5);
        C.due("by 0", gone("n16,0;t7,0;b0,15,0;", 24).person(0, 1), 15);
        C.due("over his thing", gone("n16,0;t0,0;b0,15,1;", 1).person(0, 3), 1);
        C.due("onto his thing", gone("n16,0;t1,0;b0,15,1;", 1).person(0, 3), 0);
    }

    /** Part 2: "one who stays goes a PLACE on, if his THING is at the PLACE one less than his, else not". */
    private static void stayersAreDrivenRound() {
        C.due("one less than the first is the last", gone("n16,0;t15,0;s0,0,9;", 1).person(0, 1), 1);
        C.due("a place on from the last is the first", gone("n16,0;t14,0;s0,15,9;", 1).person(0, 1), 0);
        C.due("behind him by two", gone("n16,0;t14,0;s0,0,9;", 1).person(0, 1), 0);
        C.due("ahead of him", gone("n16,0;t1,0;s0,0,9;", 1).person(0, 1), 0);
        C.due("ahead of him, over the end", gone("n16,0;t0,0;s0,15,9;", 1).person(0, 1), 15);
        C.due("it comes there first", gone("n16,0;t14,1;s0,0,9;", 1).person(0, 1), 1);
        C.due("it was there", gone("n16,0;t15,2;s0,0,9;", 1).person(0, 1), 0);
        NextNames x = gone("n16,0;t15,1;s0,1,9;", 17);
        C.due("driven once round, and one", x.person(0, 1), 2);
        C.due("he lives", x.person(0, 3), 1);
    }

    /** Part 2: "a rich one in that case LATE PLACES on". */
    private static void richOnesAreDrivenRound() {
        C.due("from the first", gone("n16,9;t15,0;r0,0,1;", 1).person(0, 1), 9);
        C.due("over the end", gone("n16,9;t14,0;r0,15,1;", 1).person(0, 1), 8);
        C.due("once round", gone("n9,9;t3,0;r0,4,1;", 9).person(0, 1), 4);
        C.due("by 0", gone("n16,0;t15,0;r0,0,1;", 24).person(0, 1), 0);
        C.due("else not", gone("n16,9;t14,0;r0,0,1;", 24).person(0, 1), 0);
        C.due("else not, ahead of him", gone("n16,9;t1,0;r0,0,1;", 24).person(0, 1), 0);
    }

    /** Part 2: a ring of two: one less is one more. */
    private static void twoPlaces() {
        NextNames x = gone("n2,0;t0,0;s0,1,0;s0,0,0;w0,1,1;k0,1,1;b0,1,1;r0,1,0;", 1);
        C.due("who stays is driven onto it", x.person(0, 1), 0);
        C.due("and dies", x.person(0, 3), 0);
        C.due("who stays on it dies", x.person(1, 3), 0);
        C.due("a walker dies", x.person(2, 3), 0);
        C.due("one who is kept stays", x.person(3, 1), 1);
        C.due("a bold one goes round", x.person(4, 1), 1);
        C.due("a rich one by 0", x.person(5, 1), 1);
        C.due("who lives", x.count(4), 8 + 16 + 32);
        x = gone("n2,9;t0,0;r0,1,0;", 9);
        C.due("driven onto it by nine", x.person(0, 1), 0);
        C.due("he lives up to day 9", x.person(0, 3), 1);
        C.due("and dies on it", x.days(1), 1);
    }

    /** Part 2: "a rich one only if DAY is LATE or more". */
    private static void richOnesDieLate() {
        for (int late = 0; late <= 9; late++) {
            NextNames x = Checks.land("n16," + late + ";t5,0;r0,5,0;");
            for (int d = 0; d < late; d++) {
                C.due("late " + late + ", day " + d, x.days(1), 0);
            }
            C.due("late " + late + ", on it", x.days(1), 1);
            C.due("he died on", x.person(0, 5), late);
        }
        NextNames x = Checks.land("n16,3;t6,0;r0,5,0;");
        x.days(7);
        x.carry(0, 5);
        C.due("more", x.days(1), 1);
        C.due("he died on", x.person(0, 5), 7);
        C.due("others die at once", gone("n16,9;t5,0;s0,5,0;", 1).person(0, 5), 0);
    }

    /** Part 2: "DAY is 1 more"; promise 16: "DAY on which he died (as it was ahead of being 1 more ..". */
    private static void dayIsOneMore() {
        NextNames x = Checks.land("n6,0;t3,0;w0,3,0;w0,1,1;w0,0,1;");
        C.due("day", x.count(3), 0);
        C.due("he lives", x.person(0, 5), Checks.NONE);
        C.due("one dies", x.days(1), 1);
        C.due("day", x.count(3), 1);
        C.due("the first died on day 0", x.person(0, 5), 0);
        C.due("the second lives", x.person(1, 5), Checks.NONE);
        C.due("two days", x.days(2), 2);
        C.due("day", x.count(3), 3);
        C.due("the second died on day 1", x.person(1, 5), 1);
        C.due("the third died on day 2", x.person(2, 5), 2);
        C.due("the first died on day 0, yet", x.person(0, 5), 0);
    }

    /** Part 2: "Who is kept in is so for a DAY less"; "goes, unless he is kept in". */
    private static void keptInForADayLess() {
        NextNames x = Checks.land("n16,0;t9,0;w0,0,1;");
        x.keepIn(0, 60);
        for (int d = 1; d <= 60; d++) {
            x.days(1);
            C.due("day " + d + ": for", x.person(0, 4), 60 - d);
            C.due("day " + d + ": at", x.person(0, 1), 0);
        }
        x.days(1);
        C.due("then he goes", x.person(0, 1), 1);
        C.due("for none, yet", x.person(0, 4), 0);
        x = Checks.land("n4,9;t3,0;w0,2,1;k0,0,1;b0,0,1;s0,0,0;r0,0,0;");
        for (int p = 0; p < 5; p++) {
            x.keepIn(p, 1);
        }
        x.days(1);
        int[] stayed = {2, 0, 0, 0, 0};
        int[] went = {3, 1, 2, 1, 1};
        for (int p = 0; p < 5; p++) {
            C.due(p + " is kept in", x.person(p, 1), stayed[p]);
        }
        C.due("then one dies", x.days(1), 1);
        for (int p = 0; p < 5; p++) {
            C.due(p + " goes", x.person(p, 1), went[p]);
        }
        x = Checks.land("n4,0;t3,1;s0,0,0;");
        x.keepIn(0, 1);
        C.due("who is kept in dies, too", x.days(1), 1);
    }

    /** Promise 13: "for n DAYS (0 to 60)": by 0 he is kept in no more. */
    private static void keptInForNone() {
        NextNames x = Checks.land("n16,0;t9,0;w0,0,1;");
        C.due("for none", x.keepIn(0, 0), 0);
        C.due("an act", x.count(6), 1);
        x.days(1);
        C.due("he goes", x.person(0, 1), 1);
        x.keepIn(0, 1);
        C.due("no more", x.keepIn(0, 0), 1);
        x.days(1);
        C.due("he goes", x.person(0, 1), 2);
    }

    /** Part 2: "each PERSON who lives goes", "who lives and is where his THING is dies": not the dead. */
    private static void deadOnesStay() {
        NextNames x = gone("n6,0;t3,0;t0,1;w0,2,1;b1,1,0;s1,4,0;", 1);
        C.due("two died", x.count(4), 4);
        C.due("nobody more", x.days(24), 0);
        C.due("where he died", x.person(0, 1), 3);
        C.due("where he died", x.person(1, 1), 1);
        C.due("on day", x.person(1, 5), 0);
    }

    /** Promise 10: "n DAYS (1 to 24) .. BAD". */
    private static void daysOfACall() {
        NextNames x = Checks.land(QUIET);
        C.due("1", x.days(1), 0);
        C.due("24", x.days(24), 0);
        for (int n : new int[] {0, -1, 25, Checks.LEAST, Checks.MOST}) {
            C.due("days " + n, x.days(n), Checks.BAD);
        }
        C.due("day", x.count(3), 25);
        C.due("all seven in one call", Checks.land("n9,0;t8,0;" + "w0,0,1;w0,1,1;w0,2,1;w0,3,1;w0,4,1;w0,5,1;w0,6,1;")
            .days(8), 7);
        C.due("all but the last", Checks.land("n9,0;t8,0;" + "w0,0,1;w0,1,1;w0,2,1;w0,3,1;w0,4,1;w0,5,1;w0,6,1;")
            .days(7), 6);
    }

    /** Promise 10: "STATE: no LAND (ahead of BAD)". */
    private static void daysWithoutALand() {
        NextNames x = new NextNames();
        for (int n : new int[] {1, 24, 0, 25, -1, Checks.LEAST, Checks.MOST}) {
            C.due("days " + n, x.days(n), Checks.STATE);
        }
        C.due("day", x.count(3), 0);
    }

    /** Promise 10: "FULL: DAY would be above 999". */
    private static void lastDay() {
        NextNames x = Checks.land(QUIET);
        for (int i = 0; i < 40; i++) {
            x.days(24);
        }
        C.due("960", x.count(3), 960);
        x.days(15);
        C.due("24 up to 999", x.days(24), 0);
        C.due("day", x.count(3), 999);
        C.due("1 more", x.days(1), Checks.FULL);
        C.due("24 more", x.days(24), Checks.FULL);
        C.due("BAD ahead of FULL", x.days(25), Checks.BAD);
        C.due("BAD ahead of FULL", x.days(0), Checks.BAD);
        C.due("day", x.count(3), 999);
        C.due("other acts go on", x.carry(0, 2), 3);
        C.due("undone", x.undo(), 23);
        C.due("a day undone", x.undo(), 22);
        C.due("day", x.count(3), 998);
        C.due("2 more", x.days(2), Checks.FULL);
        C.due("no day of them", x.count(3), 998);
        C.due("no act of them", x.count(6), 22);
        C.due("1 more", x.days(1), 0);
        C.due("day", x.count(3), 999);
        for (int i = 0; i < 23; i++) {
            x.undo();
        }
        C.due("day", x.count(3), 976);
        C.due("24 are above", x.days(24), Checks.FULL);
        C.due("23 are not", x.days(23), 0);
        C.due("foretold beyond it", x.ahead(0, 60), 0);
        C.due("life beyond it", x.life(), 60);
        C.due("another land", Checks.read(x, QUIET), 1);
        C.due("has its own days", x.days(24), 0);
    }

    /** Promise 9: "STATE: none." */
    private static void noneToUndo() {
        NextNames x = new NextNames();
        C.due("no land", x.undo(), Checks.STATE);
        Checks.read(x, QUIET);
        C.due("at first", x.undo(), Checks.STATE);
        x.carry(0, 5);
        C.due("one", x.undo(), 0);
        C.due("no more", x.undo(), Checks.STATE);
        C.due("it is where it was", x.thing(0, 0), 3);
        x.carry(0, 5);
        Checks.read(x, QUIET);
        C.due("of another land", x.undo(), Checks.STATE);
        x.image(0);
        x.carry(0, 5);
        x.restore(0);
        C.due("behind an image", x.undo(), Checks.STATE);
        C.due("as the image was", x.thing(0, 0), 3);
    }

    /** Part 2: "ACTS (24 at most are kept, of more the oldest is forgotten ..". */
    private static void twentyFourActs() {
        for (int more = 0; more <= 30; more++) {
            NextNames x = Checks.land("n16,0;t15,0;s0,8,0;");
            for (int i = 0; i < 24 + more; i++) {
                x.carry(0, i % 7);
            }
            C.due(more + " more: acts", x.count(6), 24);
            for (int left = 23; left >= 0; left--) {
                C.due(more + " more: undo", x.undo(), left);
                int last = left + more - 1;
                C.due(more + " more: where it was", x.thing(0, 0), last < 0 ? 15 : last % 7);
            }
            C.due(more + " more: no more", x.undo(), Checks.STATE);
        }
        NextNames x = Checks.land("n16,0;t15,0;s0,8,0;");
        for (int i = 0; i < 23; i++) {
            x.carry(0, 1);
        }
        C.due("23", x.count(6), 23);
        x.carry(0, 1);
        C.due("24", x.count(6), 24);
        x.carry(0, 1);
        C.due("25", x.count(6), 24);
    }

    /** Promise 10: "n DAYS .. an ACT each". */
    private static void daysAreActs() {
        NextNames x = Checks.land(QUIET);
        x.carry(0, 2);
        x.days(23);
        C.due("23 days and one", x.count(6), 24);
        for (int left = 23; left >= 1; left--) {
            C.due("a day", x.undo(), left);
            C.due("day", x.count(3), left - 1);
        }
        C.due("the first act is kept", x.undo(), 0);
        C.due("it is where it was", x.thing(0, 0), 3);
        x.carry(0, 2);
        x.days(24);
        C.due("24 days and one", x.count(6), 24);
        for (int left = 23; left >= 0; left--) {
            C.due("a day", x.undo(), left);
        }
        C.due("the first act is forgotten", x.undo(), Checks.STATE);
        C.due("it stands", x.thing(0, 0), 2);
        C.due("on day", x.count(3), 0);
    }

    /** Promise 9: "The latest ACT is undone": of full lands too, the last PERSON and the last THING with the others. */
    private static void undoneIsAsItWas() {
        String text = "n16,2;t0,1;t1,1;t2,1;t3,1;t4,1;w0,8,1;w0,9,1;w0,10,1;w0,11,1;w0,12,1;w0,13,1;w4,4,1;";
        NextNames x = Checks.land(text);
        x.keepIn(6, 5);
        x.call(6, 3);
        x.move(6, 15);
        x.carry(4, 9);
        C.due("nailed", x.nail(4, 1), 16);
        x.call(6, 4);
        x.carry(4, 15);
        C.due("he dies", x.days(1), 1);
        C.due("who lives", x.count(4), 63);
        C.due("a day", x.undo(), 7);
        C.due("he lives", x.person(6, 5), Checks.NONE);
        C.due("all live", x.count(4), 127);
        C.due("kept in for", x.person(6, 4), 5);
        C.due("a carrying", x.undo(), 6);
        C.due("thing", x.thing(4, 0), 9);
        C.due("a call", x.undo(), 5);
        C.due("name", x.person(6, 0), 3);
        C.due("a nail", x.undo(), 4);
        C.due("nailed", x.thing(4, 2), 0);
        C.due("a carrying", x.undo(), 3);
        C.due("thing", x.thing(4, 0), 4);
        C.due("goes", x.thing(4, 1), 1);
        C.due("a move", x.undo(), 2);
        C.due("place", x.person(6, 1), 4);
        C.due("a call", x.undo(), 1);
        C.due("name", x.person(6, 0), 4);
        C.due("a keeping", x.undo(), 0);
        C.due("kept in for", x.person(6, 4), 0);
        C.due("kind", x.kind(6), 1);
        C.due("step", x.person(6, 2), 1);
    }

    /** Promise 11: "BAD": a THING, a PLACE. */
    private static void carryWithin() {
        NextNames x = Checks.land("n16,0;t1,0;t2,0;t3,0;t4,0;t5,0;s0,8,0;");
        C.due("the first to the first", x.carry(0, 0), 1);
        C.due("the last to the last", x.carry(4, 15), 5);
        C.due("where it is", x.thing(4, 0), 15);
        for (int wrong : new int[] {-1, Checks.LEAST, Checks.MOST}) {
            C.due("thing " + wrong, x.carry(wrong, 0), Checks.BAD);
            C.due("place " + wrong, x.carry(0, wrong), Checks.BAD);
        }
        C.due("thing 5", x.carry(5, 0), Checks.BAD);
        C.due("place 16", x.carry(0, 16), Checks.BAD);
        C.due("acts", x.count(6), 2);
        C.due("no land", new NextNames().carry(0, 0), Checks.BAD);
        x = Checks.land("n2,0;t1,0;s0,0,0;");
        C.due("thing 1 of one", x.carry(1, 0), Checks.BAD);
        C.due("place 2 of two", x.carry(0, 2), Checks.BAD);
        C.due("place 1 of two", x.carry(0, 1), 1);
    }

    /** Promise 12: "nailed down (1), or no more (0) .. BAD". */
    private static void nailWithin() {
        NextNames x = Checks.land("n16,0;t1,1;t2,1;t3,1;t4,1;t5,1;s0,12,0;");
        for (int wrong : new int[] {-1, 5, Checks.LEAST, Checks.MOST}) {
            C.due("thing " + wrong, x.nail(wrong, 1), Checks.BAD);
            C.due("thing " + wrong, x.nail(wrong, 0), Checks.BAD);
        }
        for (int wrong : new int[] {-1, 2, Checks.LEAST, Checks.MOST}) {
            C.due("on " + wrong, x.nail(0, wrong), Checks.BAD);
            C.due("BAD ahead of STATE: on " + wrong, x.nail(4, wrong), Checks.BAD);
        }
        int bits = 0;
        for (int t = 4; t >= 0; t--) {
            bits |= 1 << t;
            C.due("nailed " + t, x.nail(t, 1), bits);
        }
        x.days(3);
        for (int t = 0; t < 5; t++) {
            C.due("it stands", x.thing(t, 0), t + 1);
        }
        for (int t = 0; t < 5; t++) {
            bits &= ~(1 << t);
            C.due("no more " + t, x.nail(t, 0), bits);
        }
        x.days(1);
        C.due("it goes", x.thing(4, 0), 6);
        C.due("no land", new NextNames().nail(0, 1), Checks.BAD);
        C.due("no land", new NextNames().nail(0, 0), Checks.BAD);
    }

    /** Promise 12: "STATE: it is so." */
    private static void nailIsSo() {
        NextNames x = Checks.land("n16,0;t1,1;t2,1;s0,8,0;");
        C.due("it is not", x.nail(1, 0), Checks.STATE);
        C.due("nailed", x.nail(1, 1), 2);
        C.due("it is", x.nail(1, 1), Checks.STATE);
        C.due("the other is not", x.nail(0, 0), Checks.STATE);
        C.due("one act", x.count(6), 1);
        C.due("it is, yet", x.thing(1, 2), 1);
        C.due("the other is not, yet", x.thing(0, 2), 0);
    }

    /** Promise 13: "n DAYS (0 to 60) .. BAD". */
    private static void keepInWithin() {
        NextNames x = Checks.land("n16,0;t9,0;w0,0,1;w0,1,1;");
        C.due("60", x.keepIn(1, 60), 0);
        C.due("0", x.keepIn(1, 0), 60);
        C.due("1", x.keepIn(0, 1), 0);
        for (int n : new int[] {-1, 61, Checks.LEAST, Checks.MOST}) {
            C.due("for " + n, x.keepIn(0, n), Checks.BAD);
        }
        for (int p : new int[] {-1, 2, Checks.LEAST, Checks.MOST}) {
            C.due("person " + p, x.keepIn(p, 1), Checks.BAD);
        }
        C.due("for 1, yet", x.person(0, 4), 1);
        C.due("acts", x.count(6), 3);
        C.due("no land", new NextNames().keepIn(0, 1), Checks.BAD);
    }

    /** Promise 14: "BAD": a PERSON, a THING. */
    private static void callWithin() {
        NextNames x = Checks.land("n16,0;t1,0;t2,0;t3,0;t4,0;t5,0;s0,8,0;s1,8,0;s1,8,0;s1,8,0;s1,8,0;s1,8,0;s1,8,0;");
        C.due("the first after the last", x.call(0, 4), 0);
        C.due("the last after the first", x.call(6, 0), 1);
        C.due("is so", x.person(6, 0), 0);
        for (int wrong : new int[] {-1, Checks.LEAST, Checks.MOST}) {
            C.due("person " + wrong, x.call(wrong, 0), Checks.BAD);
            C.due("thing " + wrong, x.call(0, wrong), Checks.BAD);
        }
        C.due("person 7", x.call(7, 0), Checks.BAD);
        C.due("thing 5", x.call(0, 5), Checks.BAD);
        C.due("is so, yet", x.person(0, 0), 4);
        C.due("acts", x.count(6), 2);
        C.due("no land", new NextNames().call(0, 0), Checks.BAD);
    }

    /** Promise 15: "BAD": a PERSON, a PLACE. */
    private static void moveWithin() {
        NextNames x = Checks.land("n16,0;t9,0;s0,8,0;s0,7,0;");
        C.due("the first to the last", x.move(0, 15), 8);
        C.due("the last to the first", x.move(1, 0), 7);
        for (int wrong : new int[] {-1, Checks.LEAST, Checks.MOST}) {
            C.due("person " + wrong, x.move(wrong, 0), Checks.BAD);
            C.due("place " + wrong, x.move(0, wrong), Checks.BAD);
        }
        C.due("person 2", x.move(2, 0), Checks.BAD);
        C.due("place 16", x.move(0, 16), Checks.BAD);
        C.due("where he is", x.person(0, 1), 15);
        C.due("where he is", x.person(1, 1), 0);
        C.due("acts", x.count(6), 2);
        C.due("onto his thing: nobody dies of it", x.move(0, 9), 15);
        C.due("he lives", x.person(0, 3), 1);
        C.due("but in the day", x.days(1), 1);
        C.due("no land", new NextNames().move(0, 0), Checks.BAD);
    }

    /** Promises 13 to 15: "STATE: he is dead", behind BAD. */
    private static void deadOnesAreLeft() {
        NextNames x = gone("n6,0;t3,0;s0,3,0;s0,0,0;", 1);
        C.due("keepIn", x.keepIn(0, 1), Checks.STATE);
        C.due("keepIn for 0", x.keepIn(0, 0), Checks.STATE);
        C.due("keepIn for 61", x.keepIn(0, 61), Checks.BAD);
        C.due("keepIn for -1", x.keepIn(0, -1), Checks.BAD);
        C.due("call", x.call(0, 0), Checks.STATE);
        C.due("call after 1", x.call(0, 1), Checks.BAD);
        C.due("move", x.move(0, 3), Checks.STATE);
        C.due("move to 6", x.move(0, 6), Checks.BAD);
        C.due("one act", x.count(6), 1);
        C.due("undone he lives", x.undo(), 0);
        C.due("keepIn", x.keepIn(0, 1), 0);
        C.due("call", x.call(0, 0), 0);
        C.due("move", x.move(0, 4), 3);
    }

    /** Promise 16: "0 .. 5 .. BAD". */
    private static void personWithin() {
        NextNames x = Checks.land("n16,0;t9,0;t8,0;s0,8,0;r1,7,6;");
        int[] due = {1, 7, 6, 1, 0, Checks.NONE};
        for (int what = 0; what < 6; what++) {
            C.due("what " + what, x.person(1, what), due[what]);
        }
        for (int what : new int[] {-1, 6, Checks.LEAST, Checks.MOST}) {
            C.due("what " + what, x.person(0, what), Checks.BAD);
        }
        for (int p : new int[] {-1, 2, 7, Checks.LEAST, Checks.MOST}) {
            C.due("person " + p, x.person(p, 0), Checks.BAD);
        }
        C.due("no land", new NextNames().person(0, 0), Checks.BAD);
    }

    /** Promise 17: "0 .. 3 (bits; dead ones, too) .. BAD". */
    private static void thingWithin() {
        NextNames x = Checks.land("n16,0;t1,0;t2,0;t3,0;t4,0;t8,15;s4,7,0;s4,7,0;s4,7,0;s4,7,0;s4,7,0;s4,7,0;s4,7,0;");
        C.due("place", x.thing(4, 0), 8);
        C.due("goes", x.thing(4, 1), 15);
        C.due("nailed", x.thing(4, 2), 0);
        C.due("all are called so", x.thing(4, 3), 127);
        C.due("nobody is called so", x.thing(0, 3), 0);
        for (int what : new int[] {-1, 4, Checks.LEAST, Checks.MOST}) {
            C.due("what " + what, x.thing(0, what), Checks.BAD);
        }
        for (int t : new int[] {-1, 5, Checks.LEAST, Checks.MOST}) {
            C.due("thing " + t, x.thing(t, 0), Checks.BAD);
        }
        C.due("all die", x.days(1), 7);
        C.due("dead ones, too", x.thing(4, 3), 127);
        C.due("no land", new NextNames().thing(0, 0), Checks.BAD);
    }
}
