/** The boundary cases of promises 18 to 26 and 32: a method for each sentence that names one. */
public final class EdgeForetoldTest {
    private static final Checks C = new Checks();
    private static final int[] WRONG_PEOPLE = {-1, 2, 7, Checks.LEAST, Checks.MOST};

    public static void main(String[] args) {
        aheadWithin();
        aheadOfADeadOne();
        liveAheadWithin();
        liveAheadWithoutALand();
        diesWithin();
        diesInSixty();
        keepDaysWithin();
        keepMany();
        keepOnNoOthers();
        keepFewest();
        keepLeastBits();
        keepRoundTheRing();
        keepRichOnes();
        nailsWithin();
        nailsInSixty();
        nailNone();
        namesWithin();
        namesInSixty();
        safestWithin();
        safestOfSeveral();
        safestInSixty();
        meetWithin();
        meetAlike();
        meetInSixty();
        meetTheDead();
        fatalWithin();
        fatalWithoutALand();
        fatalInSixty();
        deadOnesAreNotForetold();
        lifeOfAll();
        lifeWithoutALand();
        C.end();
    }

    /** A walker who is kept in at 7; where he goes then, to 8, his THING is on the 60th DAY, not if it is nailed down. */
    private static NextNames onTheSixtieth(int keptIn) {
        NextNames x = Checks.land("n16,0;t0,2;t9,0;w0,7,1;s1,3,0;");
        x.keepIn(0, keptIn);
        return x;
    }

    /** Promise 18: "AHEAD by n DAYS (0 to 60) .. BAD". */
    private static void aheadWithin() {
        NextNames x = Checks.land("n16,0;t15,1;w0,0,1;s0,9,0;");
        C.due("0", x.ahead(0, 0), 0);
        C.due("1", x.ahead(0, 1), 1);
        C.due("16: once round", x.ahead(0, 16), 0);
        C.due("60", x.ahead(0, 60), 12);
        for (int n : new int[] {-1, 61, Checks.LEAST, Checks.MOST}) {
            C.due("by " + n, x.ahead(0, n), Checks.BAD);
        }
        for (int p : WRONG_PEOPLE) {
            C.due("person " + p, x.ahead(p, 0), Checks.BAD);
        }
        C.due("the last", x.ahead(1, 60), 12 + 1);
        C.due("no land", new NextNames().ahead(0, 0), Checks.BAD);
        x = onTheSixtieth(59);
        C.due("59", x.ahead(0, 59), 7);
        C.due("60: dead", x.ahead(0, 60), Checks.NONE);
        C.due("60, kept in for all of them", onTheSixtieth(60).ahead(0, 60), 7);
    }

    /** Promise 18: "PLACE of a PERSON (NONE: dead)": dead then, and dead now. */
    private static void aheadOfADeadOne() {
        NextNames x = Checks.land("n16,0;t0,0;w0,15,1;");
        C.due("now", x.ahead(0, 0), 15);
        C.due("then", x.ahead(0, 1), Checks.NONE);
        C.due("later", x.ahead(0, 60), Checks.NONE);
        x.days(1);
        C.due("dead now", x.ahead(0, 0), Checks.NONE);
    }

    /** Promise 19: "who lives (bits)", "AHEAD by n DAYS (0 to 60)". */
    private static void liveAheadWithin() {
        NextNames x = Checks.land("n16,0;t0,1;w0,1,0;w0,2,0;w0,3,0;w0,4,0;w0,5,0;w0,6,0;w0,0,1;");
        C.due("0", x.liveAhead(0), 127);
        C.due("1: the first, and who goes to where it comes", x.liveAhead(1), 127 - 1 - 64);
        x = Checks.land("n16,0;t0,1;w0,1,0;w0,2,0;w0,3,0;w0,4,0;w0,5,0;w0,6,0;w0,1,1;");
        for (int n = 0; n <= 6; n++) {
            C.due("by " + n, x.liveAhead(n), 127 - ((1 << n) - 1));
        }
        C.due("60", x.liveAhead(60), 64);
        for (int n : new int[] {-1, 61, Checks.LEAST, Checks.MOST}) {
            C.due("by " + n, x.liveAhead(n), Checks.BAD);
        }
        C.due("59", onTheSixtieth(59).liveAhead(59), 3);
        C.due("60: one is dead", onTheSixtieth(59).liveAhead(60), 2);
    }

    /** Promise 19: "STATE: no LAND (ahead of BAD)". */
    private static void liveAheadWithoutALand() {
        for (int n : new int[] {0, 60, -1, 61, Checks.LEAST, Checks.MOST}) {
            C.due("no land: by " + n, new NextNames().liveAhead(n), Checks.STATE);
        }
    }

    /** Promise 20: "BAD"; "0: he is dead". */
    private static void diesWithin() {
        NextNames x = Checks.land("n16,0;t0,0;w0,15,1;w0,14,1;");
        C.due("1", x.dies(0), 1);
        C.due("2", x.dies(1), 2);
        for (int p : WRONG_PEOPLE) {
            C.due("person " + p, x.dies(p), Checks.BAD);
        }
        C.due("no land", new NextNames().dies(0), Checks.BAD);
        x.days(1);
        C.due("dead", x.dies(0), 0);
        C.due("1", x.dies(1), 1);
    }

    /** Promise 20: "60 at most .. first; NONE". */
    private static void diesInSixty() {
        C.due("60", onTheSixtieth(59).dies(0), 60);
        C.due("never", onTheSixtieth(60).dies(0), Checks.NONE);
        NextNames x = Checks.land("n16,0;t8,0;w0,7,1;");
        x.keepIn(0, 58);
        C.due("59", x.dies(0), 59);
        x.keepIn(0, 59);
        C.due("60", x.dies(0), 60);
        x.keepIn(0, 60);
        C.due("61 is too late", x.dies(0), Checks.NONE);
        x.days(1);
        C.due("a day later it is not", x.dies(0), 60);
    }

    /** Promise 21: "n DAYS (1 to 12) and m (0 to 12) .. what = 0 .. (1). BAD; STATE: he is dead." */
    private static void keepDaysWithin() {
        NextNames x = Checks.land("n6,0;t3,0;w0,2,1;w0,3,0;");
        C.due("1 and 0", x.keepDays(0, 1, 0, 0), 1);
        C.due("1 and 0: days", x.keepDays(0, 1, 0, 1), 0);
        C.due("12 and 12", x.keepDays(0, 12, 12, 0), 13);
        C.due("12 and 12: days", x.keepDays(0, 12, 12, 1), 4095);
        for (int n : new int[] {0, -1, 13, Checks.LEAST, Checks.MOST}) {
            C.due("n " + n, x.keepDays(0, n, 1, 0), Checks.BAD);
        }
        for (int m : new int[] {-1, 13, Checks.LEAST, Checks.MOST}) {
            C.due("m " + m, x.keepDays(0, 1, m, 0), Checks.BAD);
        }
        for (int what : new int[] {-1, 2, Checks.LEAST, Checks.MOST}) {
            C.due("what " + what, x.keepDays(0, 1, 1, what), Checks.BAD);
        }
        for (int p : WRONG_PEOPLE) {
            C.due("person " + p, x.keepDays(p, 1, 1, 0), Checks.BAD);
        }
        C.due("no land", new NextNames().keepDays(0, 1, 1, 0), Checks.BAD);
        x.keepIn(0, 1);
        x.days(1);
        C.due("dead: dies", x.keepDays(1, 1, 1, 0), Checks.STATE);
        C.due("dead: days", x.keepDays(1, 1, 1, 1), Checks.STATE);
        C.due("BAD ahead of STATE: n", x.keepDays(1, 0, 1, 0), Checks.BAD);
        C.due("BAD ahead of STATE: m", x.keepDays(1, 1, 13, 0), Checks.BAD);
        C.due("BAD ahead of STATE: what", x.keepDays(1, 1, 1, 2), Checks.BAD);
        C.due("the other lives", x.keepDays(0, 1, 1, 0), 2);
    }

    /** KEEP: "those of the next n DAYS .. m at most": the lesser of both, as each DAY kept in is a DAY gained. */
    private static void keepMany() {
        NextNames x = Checks.land("n16,0;t0,0;w0,15,1;");
        for (int n = 1; n <= 12; n++) {
            for (int m = 0; m <= 12; m++) {
                int kept = Math.min(n, m);
                C.due("dies: " + n + " and " + m, x.keepDays(0, n, m, 0), kept + 1);
                C.due("days: " + n + " and " + m, x.keepDays(0, n, m, 1), (1 << kept) - 1);
            }
        }
    }

    /** KEEP: "(on no others, however he is kept in now)". */
    private static void keepOnNoOthers() {
        NextNames x = Checks.land("n16,0;t0,0;w0,15,1;");
        for (int now : new int[] {1, 12, 60}) {
            x.keepIn(0, now);
            C.due("none, kept in for " + now, x.keepDays(0, 12, 0, 0), 1);
            C.due("one, kept in for " + now, x.keepDays(0, 12, 1, 0), 2);
            C.due("which, kept in for " + now, x.keepDays(0, 12, 1, 1), 1);
        }
        x = Checks.land("n4,0;t0,1;w0,2,1;");
        // Thing 1, 2, 3, 0, 1 .. he 3, 0, 1 ..: never. Kept in for two days he would have died at 2.
        x.keepIn(0, 2);
        C.due("he would have died", x.dies(0), 2);
        C.due("never", x.keepDays(0, 12, 12, 0), Checks.NONE);
        C.due("on no day", x.keepDays(0, 12, 12, 1), 0);
    }

    /** KEEP: "(never in 60 DAYS: best), of several the fewest". */
    private static void keepFewest() {
        NextNames x = Checks.land("n16,0;t0,0;k0,15,1;w0,0,0;");
        C.due("never anyhow: dies", x.keepDays(0, 12, 12, 0), Checks.NONE);
        C.due("never anyhow: days", x.keepDays(0, 12, 12, 1), 0);
        C.due("nothing helps: dies", x.keepDays(1, 12, 12, 0), 1);
        C.due("nothing helps: days", x.keepDays(1, 12, 12, 1), 0);
        // Thing 2, 0, 2, 0; he 2: dead. Kept in on the first day he is at 0, then at 2, 0: it is at 0, 2, not where he is.
        x = Checks.land("n4,0;t0,2;w0,0,2;");
        C.due("one: dies", x.keepDays(0, 12, 12, 0), Checks.NONE);
        C.due("one: days", x.keepDays(0, 12, 12, 1), 1);
        C.due("none may be: dies", x.keepDays(0, 12, 0, 0), 1);
    }

    /** KEEP: "then the least bits": the first DAY of those that do, the last that can be told. */
    private static void keepLeastBits() {
        // Thing still at 15. He is at 4 .. 14 on days 1 to 11, dead on day 12; a day kept in, whichever, is a day more.
        NextNames x = Checks.land("n16,0;t15,0;w0,3,1;");
        for (int n = 1; n <= 12; n++) {
            for (int m = 0; m <= 12; m++) {
                int kept = Math.min(n, m);
                C.due("dies: " + n + " and " + m, x.keepDays(0, n, m, 0), 12 + kept);
                C.due("days: " + n + " and " + m, x.keepDays(0, n, m, 1), (1 << kept) - 1);
            }
        }
        // It gains a place a day on him and has come round on day 12. A day kept in is two places: only by the twelfth
        // it passes him, and comes round on day 23; by an earlier one it is there on day 11.
        x = Checks.land("n12,0;t0,2;w0,0,1;");
        C.due("the twelfth: dies", x.keepDays(0, 12, 1, 0), 23);
        C.due("the twelfth: days", x.keepDays(0, 12, 1, 1), 2048);
        C.due("more are not better: dies", x.keepDays(0, 12, 12, 0), 23);
        C.due("more are not better: days", x.keepDays(0, 12, 12, 1), 2048);
        C.due("of eleven none: dies", x.keepDays(0, 11, 1, 0), 12);
        C.due("of eleven none: days", x.keepDays(0, 11, 1, 1), 0);
        C.due("of eleven two: dies", x.keepDays(0, 11, 2, 0), 22);
        C.due("of eleven two, the first and the last: days", x.keepDays(0, 11, 2, 1), 1 + 1024);
    }

    /** KEEP over the ring's end, for the first PLACE and the last. */
    private static void keepRoundTheRing() {
        for (int place = 0; place < 16; place++) {
            NextNames x = Checks.land("n16,0;t" + (place + 1) % 16 + ",0;w0," + place + ",1;");
            C.due("at " + place + ": dies", x.keepDays(0, 12, 12, 0), 13);
            C.due("at " + place + ": days", x.keepDays(0, 12, 12, 1), 4095);
        }
        // Thing 1, 0, 1, 0: he is not to be at 1 on odd days. Kept in on the first he is at 0, then at 1, 0, 1: never.
        NextNames x = Checks.land("n2,0;t0,1;w0,0,1;");
        C.due("two places: free", x.keepDays(0, 12, 0, 0), 1);
        C.due("two places: one", x.keepDays(0, 12, 12, 0), Checks.NONE);
        C.due("two places: the first day", x.keepDays(0, 12, 12, 1), 1);
    }

    /** KEEP of a rich one: "only if DAY is LATE or more", by the DAY it will be. */
    private static void keepRichOnes() {
        NextNames x = Checks.land("n16,5;t9,0;r0,9,0;");
        C.due("day 0: dies", x.keepDays(0, 12, 12, 0), 6);
        C.due("day 0: days", x.keepDays(0, 12, 12, 1), 0);
        C.due("by one day", x.keepDays(0, 1, 1, 0), 6);
        x.days(3);
        C.due("day 3: dies", x.keepDays(0, 12, 12, 0), 3);
        C.due("day 3, by one day", x.keepDays(0, 1, 1, 0), 3);
        x.days(2);
        C.due("day 5: dies", x.keepDays(0, 12, 12, 0), 1);
        // Driven from 4 by 9 to 13, if he is not kept in; then the thing stands at 3 and he at 13.
        x = Checks.land("n16,9;t3,0;r0,4,0;");
        C.due("never", x.keepDays(0, 12, 12, 0), Checks.NONE);
    }

    /** Promise 22: "n DAYS (1 to 60) .. what = 0 .. (1) .. BAD; STATE: he is dead." */
    private static void nailsWithin() {
        NextNames x = Checks.land("n6,0;t0,1;t5,0;w0,1,0;s1,5,0;");
        C.due("1: how many", x.nails(0, 1, 0), 1);
        C.due("1: which", x.nails(0, 1, 1), 1);
        C.due("60: how many", x.nails(0, 60, 0), 1);
        C.due("60: which", x.nails(0, 60, 1), 1);
        for (int n : new int[] {0, -1, 61, Checks.LEAST, Checks.MOST}) {
            C.due("n " + n, x.nails(0, n, 0), Checks.BAD);
        }
        for (int what : new int[] {-1, 2, Checks.LEAST, Checks.MOST}) {
            C.due("what " + what, x.nails(0, 1, what), Checks.BAD);
        }
        for (int p : WRONG_PEOPLE) {
            C.due("person " + p, x.nails(p, 1, 0), Checks.BAD);
        }
        C.due("no land", new NextNames().nails(0, 1, 0), Checks.BAD);
        C.due("in vain", x.nails(1, 1, 0), Checks.NONE);
        x.keepIn(0, 0);
        x.carry(0, 3);
        x.days(1);
        C.due("dead: how many", x.nails(1, 1, 0), Checks.STATE);
        C.due("dead: which", x.nails(1, 60, 1), Checks.STATE);
        C.due("BAD ahead of STATE: n", x.nails(1, 61, 0), Checks.BAD);
        C.due("BAD ahead of STATE: what", x.nails(1, 1, 2), Checks.BAD);
    }

    /** NAIL: "so that one lives behind them": up to the 60th. */
    private static void nailsInSixty() {
        NextNames x = onTheSixtieth(59);
        C.due("59: how many", x.nails(0, 59, 0), 0);
        C.due("59: which", x.nails(0, 59, 1), 0);
        C.due("60: how many", x.nails(0, 60, 0), 1);
        C.due("60: which", x.nails(0, 60, 1), 1);
        C.due("kept in for sixty: how many", onTheSixtieth(60).nails(0, 60, 0), 0);
        x = Checks.land("n16,0;t1,0;t2,0;t3,0;t4,0;t7,1;w4,8,0;");
        C.due("the last: how many", x.nails(0, 1, 0), 1);
        C.due("the last: which", x.nails(0, 1, 1), 16);
    }

    /** NAIL: "NONE": no THING more helps. */
    private static void nailNone() {
        NextNames x = Checks.land("n6,0;t2,1;t0,1;w0,2,0;");
        C.due("it goes off, and comes again", x.nails(0, 5, 0), 0);
        C.due("it comes again on the sixth, and stood on him", x.nails(0, 6, 0), Checks.NONE);
        C.due("which", x.nails(0, 6, 1), Checks.NONE);
        x.nail(0, 1);
        C.due("nailed down on him", x.nails(0, 1, 0), Checks.NONE);
        C.due("nailed down on him: which", x.nails(0, 1, 1), Checks.NONE);
        x.carry(0, 4);
        C.due("nailed down elsewhere: no more is needed", x.nails(0, 60, 0), 0);
        C.due("nailed down elsewhere: none", x.nails(0, 60, 1), 0);
    }

    /** Promise 23: "n DAYS (1 to 60) .. BAD; STATE: he is dead." */
    private static void namesWithin() {
        NextNames x = Checks.land("n16,0;t0,0;t1,0;t2,0;t3,0;t4,0;s0,4,0;s3,3,0;");
        // Of the things at 0 to 2 nothing comes near 4; from 3 he is driven on; at 4 he dies.
        C.due("1", x.names(0, 1), 15);
        C.due("60", x.names(0, 60), 15);
        C.due("the last, too", x.names(1, 60), 1 + 2 + 4 + 16);
        for (int n : new int[] {0, -1, 61, Checks.LEAST, Checks.MOST}) {
            C.due("n " + n, x.names(0, n), Checks.BAD);
        }
        for (int p : WRONG_PEOPLE) {
            C.due("person " + p, x.names(p, 1), Checks.BAD);
        }
        C.due("no land", new NextNames().names(0, 1), Checks.BAD);
        x.days(1);
        C.due("dead", x.names(1, 1), Checks.STATE);
        C.due("BAD ahead of STATE", x.names(1, 0), Checks.BAD);
        C.due("BAD ahead of STATE", x.names(1, 61), Checks.BAD);
        C.due("none", Checks.land("n2,0;t0,0;t0,0;w0,0,0;").names(0, 1), 0);
    }

    /** NAMES: "by which one lives behind n DAYS": up to the 60th. */
    private static void namesInSixty() {
        C.due("59", onTheSixtieth(59).names(0, 59), 3);
        C.due("60", onTheSixtieth(59).names(0, 60), 2);
        C.due("60, kept in for all of them", onTheSixtieth(60).names(0, 60), 3);
    }

    /** Promise 24: "BAD; STATE: he is dead." */
    private static void safestWithin() {
        NextNames x = Checks.land("n16,0;t15,1;w0,5,0;w0,0,0;");
        // It is at 0, 1 .. 15 on days 1, 2 .. 16.
        C.due("the last place", x.safest(0), 15);
        for (int p : WRONG_PEOPLE) {
            C.due("person " + p, x.safest(p), Checks.BAD);
        }
        C.due("no land", new NextNames().safest(0), Checks.BAD);
        x.days(1);
        C.due("dead", x.safest(1), Checks.STATE);
        C.due("it is at 0 now: the first place", x.safest(0), 0);
    }

    /** SAFEST: "of several the first". */
    private static void safestOfSeveral() {
        C.due("all are alike", Checks.land("n16,0;t3,1;k0,9,1;").safest(0), 0);
        C.due("all but the first", Checks.land("n16,0;t0,0;w0,9,0;").safest(0), 1);
        C.due("all but the second", Checks.land("n16,0;t1,0;w0,9,0;").safest(0), 0);
        C.due("all die at once but one", Checks.land("n2,0;t1,0;w0,1,1;").safest(0), 1);
        C.due("each dies in two", Checks.land("n2,0;t0,0;w0,0,1;").safest(0), 0);
        NextNames x = Checks.land("n4,0;t0,1;w0,2,0;");
        C.due("it comes round to all: last to where it is", x.safest(0), 0);
        x.keepIn(0, 60);
        C.due("whether he is kept in or not", x.safest(0), 0);
    }

    /** SAFEST: "(never in 60 DAYS: best)". */
    private static void safestInSixty() {
        NextNames x = Checks.land("n4,0;t1,0;w0,3,1;");
        x.keepIn(0, 59);
        // From 0 he dies on the 60th, at 1 on the first, from 2 and 3 not in 60.
        C.due("59", x.safest(0), 2);
        x.keepIn(0, 60);
        C.due("60", x.safest(0), 0);
        x.keepIn(0, 58);
        // From 0 he dies on the 59th, from 3 on the 60th, from 2 on the 61st.
        C.due("58", x.safest(0), 2);
        x.keepIn(0, 57);
        // From 0 he dies on the 58th, from 3 on the 59th, from 2 on the 60th, from 1 at once.
        C.due("57", x.safest(0), 2);
    }

    /** Promise 25: "BAD". */
    private static void meetWithin() {
        NextNames x = Checks.land("n16,0;t15,0;s0,3,0;w0,3,1;");
        C.due("now", x.meet(0, 1), 0);
        C.due("now", x.meet(1, 0), 0);
        for (int p : WRONG_PEOPLE) {
            C.due("person " + p, x.meet(p, 0), Checks.BAD);
            C.due("other " + p, x.meet(1, p), Checks.BAD);
            C.due("both " + p, x.meet(p, p), Checks.BAD);
        }
        C.due("no land", new NextNames().meet(0, 1), Checks.BAD);
        x = Checks.land("n16,0;t15,0;s0,3,0;s0,4,0;s0,5,0;s0,6,0;s0,7,0;s0,8,0;w0,7,1;");
        C.due("the last", x.meet(6, 5), 1);
        C.due("the seventh is none", x.meet(6, 7), Checks.BAD);
    }

    /** Promise 25: "BAD: alike, too." */
    private static void meetAlike() {
        NextNames x = Checks.land("n16,0;t3,0;s0,3,0;w0,5,1;");
        C.due("0", x.meet(0, 0), Checks.BAD);
        C.due("1", x.meet(1, 1), Checks.BAD);
        x.days(1);
        C.due("a dead one", x.meet(0, 0), Checks.BAD);
    }

    /** MEET: "behind how many DAYS (0: now; 60 at most) .. first; NONE". */
    private static void meetInSixty() {
        NextNames x = Checks.land("n16,0;t15,0;s0,1,0;w0,0,1;");
        C.due("1", x.meet(0, 1), 1);
        x.keepIn(1, 58);
        C.due("59", x.meet(0, 1), 59);
        x.keepIn(1, 59);
        C.due("60", x.meet(0, 1), 60);
        C.due("60, the other way", x.meet(1, 0), 60);
        x.keepIn(1, 60);
        C.due("61 is too late", x.meet(0, 1), Checks.NONE);
        C.due("first, not again", Checks.land("n4,0;t3,0;t3,0;k0,0,1;s1,1,0;").meet(0, 1), 1);
    }

    /** MEET: "two who live": not with a dead one, not in the DAY on which one dies. */
    private static void meetTheDead() {
        NextNames x = Checks.land("n16,0;t3,0;t9,0;w0,2,1;s1,3,0;w0,1,1;");
        C.due("he dies where the other is", x.meet(0, 1), Checks.NONE);
        C.due("he dies two days from now", x.meet(2, 1), Checks.NONE);
        x.days(1);
        C.due("dead where the other is", x.meet(0, 1), Checks.NONE);
        C.due("the other way", x.meet(1, 0), Checks.NONE);
        C.due("ahead of his death", Checks.land("n16,0;t3,0;t9,0;w0,0,1;s1,2,0;").meet(0, 1), 2);
    }

    /** Promise 26: "the next n DAYS (1 to 60) .. BAD". */
    private static void fatalWithin() {
        NextNames x = Checks.land("n16,0;t1,0;t2,0;t3,0;t4,0;t5,0;w0,0,1;w1,0,1;w2,0,1;w3,0,1;s0,9,0;s0,9,0;w4,0,1;");
        for (int n = 1; n <= 5; n++) {
            C.due("in " + n, x.fatal(n), (1 << n) - 1);
        }
        C.due("in 60", x.fatal(60), 31);
        for (int n : new int[] {0, -1, 61, Checks.LEAST, Checks.MOST}) {
            C.due("in " + n, x.fatal(n), Checks.BAD);
        }
    }

    /** Promise 26: "STATE: no LAND (ahead of BAD)". */
    private static void fatalWithoutALand() {
        for (int n : new int[] {1, 60, 0, 61, Checks.LEAST, Checks.MOST}) {
            C.due("no land: in " + n, new NextNames().fatal(n), Checks.STATE);
        }
    }

    /** FATAL: on the 60th DAY, not behind it. */
    private static void fatalInSixty() {
        C.due("59", onTheSixtieth(59).fatal(59), 0);
        C.due("60", onTheSixtieth(59).fatal(60), 1);
        C.due("61 is too late", onTheSixtieth(60).fatal(60), 0);
    }

    /** FATAL "somebody dies in the next n DAYS", "who lives", "all who live": the dead are dead. */
    private static void deadOnesAreNotForetold() {
        NextNames x = Checks.land("n16,0;t1,0;t2,0;w0,1,0;w1,5,0;");
        C.due("one dies", x.days(1), 1);
        C.due("fatal", x.fatal(60), 0);
        C.due("who lives", x.liveAhead(0), 2);
        C.due("life", x.life(), 60);
        C.due("dies", x.dies(0), 0);
    }

    /** Promise 32: "DIES of all who live, together (NONE: 60)". */
    private static void lifeOfAll() {
        C.due("seven for ever", Checks.land("n2,0;t0,0;" + "w0,1,0;".repeat(7)).life(), 420);
        C.due("seven for a day", Checks.land("n2,0;t0,0;" + "w0,0,0;".repeat(7)).life(), 7);
        NextNames x = Checks.land("n16,0;t8,0;w0,7,1;");
        for (int kept = 57; kept <= 60; kept++) {
            x.keepIn(0, kept);
            C.due("kept in for " + kept, x.life(), Math.min(kept + 1, 60));
        }
        x = Checks.land("n2,0;t0,0;" + "w0,0,0;".repeat(7));
        x.days(1);
        C.due("nobody lives", x.life(), 0);
    }

    /** Promise 32: "STATE: no LAND." */
    private static void lifeWithoutALand() {
        NextNames x = new NextNames();
        C.due("no land", x.life(), Checks.STATE);
        Checks.read(x, "n1");
        C.due("a fault is no land", x.life(), Checks.STATE);
    }
}
