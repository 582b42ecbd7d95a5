/** The boundary cases of promises 27 to 31 and 33 to 35: a method for each sentence that names one. */
public final class EdgeToldTest {
    private static final Checks C = new Checks();
    private static final String[] TELLS = {"called", "who", "steps"};

    public static void main(String[] args) {
        tellsOfAPerson();
        tellsByARow();
        tellsOfTwelveDays();
        tellsWithinARow();
        tellsOfAMissingRow();
        tellsOfEachDay();
        deadIsMinusOne();
        placesAreNotWrapped();
        calledByAllThings();
        whoOfFiveKinds();
        stepsOfTen();
        namesakesWithin();
        namesakesOfSeven();
        namesakesNone();
        stillWithin();
        stillInLowestTerms();
        stillOfOneNailedDown();
        stillRoundTheRing();
        drawnWithin();
        drawnWithoutALand();
        drawnByDraws();
        drawnForSixtyDays();
        imagesAreTwo();
        imageWithoutALand();
        restoreWithoutAnImage();
        restoredIsAsKept();
        restoredCannotBeUndone();
        C.end();
    }

    private static long tell(NextNames x, String how, int person, int row, int i, int n) {
        return Checks.answer(x, how, person, row, i, n);
    }

    /** A walker at 0 by 1, whose THING is at 14; in ROW 0 he is at 1, 2 .. 12 in the first 12 ITEMS and in the last. */
    private static NextNames walk() {
        NextNames x = Checks.land("n16,0;t14,0;w0,0,1;");
        x.row(0, 0, 40);
        for (int i = 0; i < 12; i++) {
            x.set(0, i, i + 1);
            x.set(0, 28 + i, i + 1);
        }
        return x;
    }

    private static final int[] FITS = {1, 2 + 4, 2};

    /** Promises 27 to 29: "BAD: PERSON". */
    private static void tellsOfAPerson() {
        NextNames x = walk();
        for (int k = 0; k < 3; k++) {
            C.due(TELLS[k] + " of the last", tell(x, TELLS[k], 0, 0, 0, 12), FITS[k]);
            for (int p : new int[] {-1, 1, 7, Checks.LEAST, Checks.MOST}) {
                C.due(TELLS[k] + " of " + p, tell(x, TELLS[k], p, 0, 0, 12), Checks.BAD);
                C.due(TELLS[k] + ": BAD ahead of NULL", tell(x, TELLS[k], p, 1, 0, 12), Checks.BAD);
                C.due(TELLS[k] + ": BAD ahead of PLACE", tell(x, TELLS[k], p, 0, -1, 12), Checks.BAD);
            }
            C.due(TELLS[k] + ": no land", tell(new NextNames(), TELLS[k], 0, 0, 0, 1), Checks.BAD);
        }
    }

    /** Promises 27 to 29: "BAD: .. ROW". */
    private static void tellsByARow() {
        NextNames x = walk();
        x.row(7, 0, 1);
        x.set(7, 0, 1);
        for (int k = 0; k < 3; k++) {
            C.due(TELLS[k] + " by row 7", tell(x, TELLS[k], 0, 7, 0, 1) & FITS[k], FITS[k]);
            for (int row : new int[] {-1, 8, Checks.LEAST, Checks.MOST}) {
                C.due(TELLS[k] + " by row " + row, tell(x, TELLS[k], 0, row, 0, 1), Checks.BAD);
            }
        }
    }

    /** Promises 27 to 29: "BAD: .. n", "each of n DAYS (1 to 12)". */
    private static void tellsOfTwelveDays() {
        NextNames x = walk();
        for (int k = 0; k < 3; k++) {
            C.due(TELLS[k] + " of 1", tell(x, TELLS[k], 0, 0, 0, 1), FITS[k]);
            C.due(TELLS[k] + " of 12", tell(x, TELLS[k], 0, 0, 0, 12), FITS[k]);
            for (int n : new int[] {0, -1, 13, Checks.LEAST, Checks.MOST}) {
                C.due(TELLS[k] + " of " + n, tell(x, TELLS[k], 0, 0, 0, n), Checks.BAD);
                C.due(TELLS[k] + ": BAD ahead of NULL", tell(x, TELLS[k], 0, 1, 0, n), Checks.BAD);
                C.due(TELLS[k] + ": BAD ahead of PLACE", tell(x, TELLS[k], 0, 0, -1, n), Checks.BAD);
            }
        }
    }

    /** Promises 27 to 29: "n ITEMS of a ROW from i on .. PLACE". */
    private static void tellsWithinARow() {
        NextNames x = walk();
        x.row(1, 0, 3);
        x.row(2, 0, 0);
        int[] still = {0, 16 + 32, 1};
        for (int k = 0; k < 3; k++) {
            C.due(TELLS[k] + " up to the end", tell(x, TELLS[k], 0, 0, 28, 12), FITS[k]);
            C.due(TELLS[k] + " beyond it", tell(x, TELLS[k], 0, 0, 29, 12), Checks.PLACE);
            C.due(TELLS[k] + ": its finding", x.status(), 2);
            C.due(TELLS[k] + " the last", tell(x, TELLS[k], 0, 0, 39, 1), 0);
            C.due(TELLS[k] + " behind the last", tell(x, TELLS[k], 0, 0, 40, 1), Checks.PLACE);
            for (int i : new int[] {-1, -12, Checks.LEAST, Checks.MOST, Checks.MOST - 11}) {
                C.due(TELLS[k] + " from " + i, tell(x, TELLS[k], 0, 0, i, 12), Checks.PLACE);
            }
            C.due(TELLS[k] + " of three", tell(x, TELLS[k], 0, 1, 0, 3), still[k]);
            C.due(TELLS[k] + " of four of three", tell(x, TELLS[k], 0, 1, 0, 4), Checks.PLACE);
            C.due(TELLS[k] + " of none", tell(x, TELLS[k], 0, 2, 0, 1), Checks.PLACE);
        }
    }

    /** Promises 27 to 29: "NULL; PLACE". */
    private static void tellsOfAMissingRow() {
        NextNames x = walk();
        for (String how : TELLS) {
            C.due(how, tell(x, how, 0, 1, 0, 1), Checks.NULL);
            C.due(how + ": its finding", x.status(), 1);
            C.due(how + ": NULL ahead of PLACE", tell(x, how, 0, 1, -1, 1), Checks.NULL);
            C.due(how + ": NULL ahead of PLACE", tell(x, how, 0, 7, 40, 12), Checks.NULL);
        }
    }

    /** CALLED: "behind each of n DAYS from now on": one ITEM that is another, the first or the last, and nothing fits. */
    private static void tellsOfEachDay() {
        for (int wrong = 0; wrong < 12; wrong++) {
            NextNames x = walk();
            x.set(0, wrong, 13);
            for (int k = 0; k < 3; k++) {
                C.due(TELLS[k] + ", wrong at " + wrong, tell(x, TELLS[k], 0, 0, 0, 12), 0);
                if (wrong > 0) {
                    C.due(TELLS[k] + ", up to " + wrong, tell(x, TELLS[k], 0, 0, 0, wrong), FITS[k]);
                }
            }
        }
        NextNames x = walk();
        x.days(3);
        C.due("from now on, not from day 0", x.steps(0, 0, 0, 3), 0);
        C.due("from now on", x.steps(0, 0, 3, 3), 2);
    }

    /** CALLED: "(-1: dead)", in whichever LANE; nothing else is. */
    private static void deadIsMinusOne() {
        NextNames x = Checks.land("n16,0;t1,0;w0,0,1;");
        for (int lane = 0; lane < 3; lane++) {
            x.row(lane, lane, 2);
            x.set(lane, 0, -1);
            x.set(lane, 1, -1);
            C.due("dead behind one, and two", x.called(0, lane, 0, 2), 1);
            x.set(lane, 0, 255);
            C.due("255 in lane " + lane, x.called(0, lane, 0, 2), lane == 0 ? 1 : 0);
            x.set(lane, 0, 65535);
            C.due("65535 in lane " + lane, x.called(0, lane, 0, 2), lane < 2 ? 1 : 0);
            for (int other : new int[] {-2, 1, 0, Checks.NONE}) {
                x.set(lane, 0, other);
                C.due(other + " in lane " + lane, x.called(0, lane, 0, 1), 0);
            }
        }
        x.row(0, 0, 2);
        x.set(0, 0, -1);
        C.due("dead, and there again", x.called(0, 0, 0, 2), 0);
        x.set(0, 1, 1);
        C.due("dead, and where he died", x.called(0, 0, 0, 2), 0);
        x.days(1);
        x.set(0, 1, -1);
        C.due("dead now: all things", x.called(0, 0, 0, 2), 1);
        C.due("dead now: all kinds", x.who(0, 0, 0, 2), 62);
        C.due("dead now: all steps", x.steps(0, 0, 0, 2), 1023);
        x.set(0, 1, 1);
        C.due("where he died: no thing", x.called(0, 0, 1, 1), 0);
        C.due("where he died: no kind", x.who(0, 0, 1, 1), 0);
        C.due("where he died: no step", x.steps(0, 0, 1, 1), 0);
    }

    /** CALLED: "a row tells PLACE": a number beyond the ring is none. */
    private static void placesAreNotWrapped() {
        NextNames x = Checks.land("n4,0;t3,0;w0,3,1;");
        x.row(0, 2, 1);
        int[][] dues = {{0, 1}, {4, 0}, {-4, 0}, {8, 0}, {Checks.LEAST, 0}, {Checks.MOST, 0}};
        for (int[] one : dues) {
            x.set(0, 0, one[0]);
            C.due("at " + one[0], x.called(0, 0, 0, 1), one[1]);
        }
    }

    /** CALLED: "THINGS (bits) after which he could be called so": all five, the first, the last. */
    private static void calledByAllThings() {
        NextNames x = Checks.land("n16,0;t5,0;t6,0;t7,0;t8,0;t1,0;w2,0,1;");
        x.row(0, 0, 1);
        x.set(0, 0, 1);
        C.due("all but the last", x.called(0, 0, 0, 1), 15);
        x.set(0, 0, -1);
        C.due("the last", x.called(0, 0, 0, 1), 16);
        x.set(0, 0, 2);
        C.due("none", x.called(0, 0, 0, 1), 0);
        x.move(0, 15);
        x.set(0, 0, 0);
        C.due("all", x.called(0, 0, 0, 1), 31);
        x.carry(0, 0);
        C.due("all but the first", x.called(0, 0, 0, 1), 30);
        C.due("he is called as he was", x.person(0, 0), 2);
    }

    /** WHO: "KINDS (bits 1 to 5) by which it is so". */
    private static void whoOfFiveKinds() {
        NextNames x = Checks.land("n16,3;t9,0;w0,0,0;");
        x.row(0, 0, 1);
        C.due("all stay", x.who(0, 0, 0, 1), 62);
        x = Checks.land("n16,3;t15,0;s0,0,1;");
        x.row(0, 0, 1);
        int[] due = {0, 2 + 4 + 16, 8, 32};
        for (int place = 0; place < 4; place++) {
            x.set(0, 0, place);
            C.due("at " + place, x.who(0, 0, 0, 1), due[place]);
        }
        x.carry(0, 1);
        x.set(0, 0, 0);
        C.due("kept from 1, stays, stays", x.who(0, 0, 0, 1), 4 + 16 + 32);
        x.set(0, 0, -1);
        C.due("a walker dies", x.who(0, 0, 0, 1), 2);
        x.set(0, 0, 2);
        C.due("a bold one", x.who(0, 0, 0, 1), 8);
        C.due("his kind is what it was", x.kind(0), 4);
    }

    /** STEPS: "STEP (0 to 9, bits) by which it is so". */
    private static void stepsOfTen() {
        NextNames x = Checks.land("n16,0;t15,0;w0,0,5;s0,0,5;");
        x.row(0, 0, 1);
        for (int step = 0; step <= 9; step++) {
            x.set(0, 0, step);
            C.due("by " + step, x.steps(0, 0, 0, 1), 1 << step);
        }
        x.set(0, 0, 10);
        C.due("by 10", x.steps(0, 0, 0, 1), 0);
        x.set(0, 0, 1);
        C.due("who is driven, by any", x.steps(1, 0, 0, 1), 1023);
        C.due("his step is what it was", x.person(0, 2), 5);
        x = Checks.land("n2,0;t0,0;w0,1,0;k0,1,0;b0,1,0;");
        x.row(0, 0, 1);
        x.set(0, 0, 1);
        C.due("round two: by even ones", x.steps(0, 0, 0, 1), 341);
        C.due("round two, kept: by all", x.steps(1, 0, 0, 1), 1023);
        C.due("round two, bold: by all", x.steps(2, 0, 0, 1), 1023);
        x.set(0, 0, -1);
        C.due("round two: dead by odd ones", x.steps(0, 0, 0, 1), 682);
    }

    /** Promise 30: "what = 0 .. (1 ..). BAD; STATE: no LAND (ahead of BAD)." */
    private static void namesakesWithin() {
        NextNames x = Checks.land("n16,0;t15,0;w0,0,5;s0,0,5;");
        C.due("how many", x.namesakes(0), 1);
        C.due("the first", x.namesakes(1), 1);
        for (int what : new int[] {-1, 2, Checks.LEAST, Checks.MOST}) {
            C.due("what " + what, x.namesakes(what), Checks.BAD);
        }
        for (int what : new int[] {0, 1, -1, 2, Checks.LEAST, Checks.MOST}) {
            C.due("no land: what " + what, new NextNames().namesakes(what), Checks.STATE);
        }
    }

    /** NAMESAKES: "how many; the first (10 times the lesser, and the greater)": of seven, and the last two. */
    private static void namesakesOfSeven() {
        NextNames x = Checks.land("n2,0;t0,0;" + "w0,1,0;".repeat(7));
        C.due("of seven: how many", x.namesakes(0), 21);
        C.due("of seven: the first", x.namesakes(1), 1);
        x = Checks.land("n16,0;t0,0;t0,0;t0,0;t0,0;t8,0;s0,4,0;s1,4,0;s2,4,0;s3,4,0;s4,8,0;s4,4,0;s4,3,0;");
        C.due("of the last three: how many", x.namesakes(0), 3);
        C.due("of the last three: the first", x.namesakes(1), 45);
        C.due("one of them dies", x.days(1), 1);
        C.due("of the last two: how many", x.namesakes(0), 1);
        C.due("of the last two: the first", x.namesakes(1), 56);
        x.call(6, 0);
        C.due("the first and the last", x.namesakes(1), 6);
    }

    /** NAMESAKES: "PEOPLE who live .. NONE". */
    private static void namesakesNone() {
        NextNames x = Checks.land("n16,0;t8,0;t0,0;s0,4,0;s0,8,0;s1,4,0;");
        C.due("one pair", x.namesakes(0), 1);
        x.days(1);
        C.due("one of them is dead: how many", x.namesakes(0), 0);
        C.due("one of them is dead: the first", x.namesakes(1), Checks.NONE);
        x.call(2, 0);
        C.due("another, but not the dead one: how many", x.namesakes(0), 1);
        C.due("another: the first", x.namesakes(1), 2);
        x = Checks.land("n16,0;t8,0;s0,4,0;");
        C.due("alone: how many", x.namesakes(0), 0);
        C.due("alone: the first", x.namesakes(1), Checks.NONE);
    }

    /** Promise 31: "p of 10 (0 to 10) .. (what = 0), below (1). BAD." */
    private static void stillWithin() {
        NextNames x = Checks.land("n16,0;t15,1;w0,0,0;w0,15,0;");
        C.due("0: above", x.still(1, 0, 0), 1);
        C.due("0: below", x.still(1, 0, 1), 1);
        C.due("10: above", x.still(0, 10, 0), 1);
        C.due("10: below", x.still(0, 10, 1), 1);
        for (int p : new int[] {-1, 11, Checks.LEAST, Checks.MOST}) {
            C.due("p " + p, x.still(0, p, 0), Checks.BAD);
            C.due("p " + p, x.still(0, p, 1), Checks.BAD);
        }
        for (int what : new int[] {-1, 2, Checks.LEAST, Checks.MOST}) {
            C.due("what " + what, x.still(0, 5, what), Checks.BAD);
        }
        for (int one : new int[] {-1, 2, 7, Checks.LEAST, Checks.MOST}) {
            C.due("person " + one, x.still(one, 5, 0), Checks.BAD);
        }
        C.due("no land", new NextNames().still(0, 5, 0), Checks.BAD);
    }

    /** Terms: "fractions, told as two numbers in lowest terms (0 is 0 by 1)". */
    private static void stillInLowestTerms() {
        long[][] due = {{0, 1}, {1, 10}, {1, 5}, {3, 10}, {2, 5}, {1, 2}, {3, 5}, {7, 10}, {4, 5}, {9, 10}, {1, 1}};
        NextNames x = Checks.land("n16,0;t14,1;t3,0;w0,15,0;w0,14,0;w0,5,0;w1,3,0;");
        for (int p = 0; p <= 10; p++) {
            for (int what = 0; what < 2; what++) {
                C.due("if it stands, by " + p, x.still(0, p, what), due[p][what]);
                C.due("if it goes, by " + p, x.still(1, p, what), due[10 - p][what]);
                C.due("anyhow, by " + p, x.still(2, p, what), 1);
                C.due("never, by " + p, x.still(3, p, what), what);
            }
        }
        C.due("one dies", x.days(1), 2);
        C.due("a dead one: above", x.still(3, 5, 0), 0);
        C.due("a dead one: below", x.still(3, 5, 1), 1);
    }

    /** STILL: "each THING that is not nailed down stands still in p of 10 cases". */
    private static void stillOfOneNailedDown() {
        NextNames x = Checks.land("n16,0;t14,1;w0,15,0;w0,14,0;");
        x.nail(0, 1);
        for (int p = 0; p <= 10; p += 5) {
            C.due("it does not come: above, " + p, x.still(0, p, 0), 1);
            C.due("it does not come: below, " + p, x.still(0, p, 1), 1);
            C.due("it does not go: above, " + p, x.still(1, p, 0), 0);
            C.due("it does not go: below, " + p, x.still(1, p, 1), 1);
        }
    }

    /** STILL over the ring's end; a THING that goes once round stands, and a rich one is spared up to LATE. */
    private static void stillRoundTheRing() {
        NextNames x = Checks.land("n15,1;t14,1;t3,15;w0,0,0;w1,3,0;r1,3,0;");
        C.due("from the last to the first: above", x.still(0, 3, 0), 3);
        C.due("from the last to the first: below", x.still(0, 3, 1), 10);
        C.due("once round: above", x.still(1, 3, 0), 0);
        C.due("a rich one on day 0", x.still(2, 3, 0), 1);
        x.days(1);
        C.due("a rich one on day 1", x.still(2, 3, 0), 0);
    }

    /** Promise 33: "n DAYS (0 to 60) .. a SEED (1 to 999999): .. (what = 0), .. (1). BAD". */
    private static void drawnWithin() {
        NextNames x = Checks.land("n16,0;t15,0;w0,0,0;");
        C.due("no day: who lives", x.drawn(0, 1, 0), 1);
        C.due("no day: who died", x.drawn(0, 999999, 1), 0);
        C.due("a day by 1", x.drawn(1, 1, 0), 1);
        C.due("a day by 999999", x.drawn(1, 999999, 0), 1);
        int lives = x.drawn(60, 1, 0);
        C.due("60", lives + x.drawn(60, 1, 1), 1);
        for (int n : new int[] {-1, 61, Checks.LEAST, Checks.MOST}) {
            C.due("n " + n, x.drawn(n, 1, 0), Checks.BAD);
        }
        for (int seed : new int[] {0, -1, 1000000, Checks.LEAST, Checks.MOST}) {
            C.due("seed " + seed, x.drawn(1, seed, 0), Checks.BAD);
            C.due("seed " + seed + ", no day", x.drawn(0, seed, 0), Checks.BAD);
        }
        for (int what : new int[] {-1, 2, Checks.LEAST, Checks.MOST}) {
            C.due("what " + what, x.drawn(1, 1, what), Checks.BAD);
        }
    }

    /** Promise 33: "STATE: no LAND (ahead of BAD)." */
    private static void drawnWithoutALand() {
        NextNames x = new NextNames();
        C.due("as told", x.drawn(1, 1, 0), Checks.STATE);
        C.due("n 61", x.drawn(61, 1, 0), Checks.STATE);
        C.due("n -1", x.drawn(-1, 1, 0), Checks.STATE);
        C.due("seed 0", x.drawn(1, 0, 0), Checks.STATE);
        C.due("what 2", x.drawn(1, 1, 2), Checks.STATE);
    }

    /**
     * YEARS: "X becomes the rest of (X times 16807) by 2147483647; if X by 3 leaves 0, the THING that is the rest of X
     * by how many there are is carried to the PLACE that is the rest of X by PLACES". All THINGS are at 0; X is
     * 50421: THING 1 to 5; 2147480811, the last ahead of a round: THING 1 to 11; 13971: THING 1 to 3;
     * 1774564050: THING 0 to 2; by 999999 first on the third DAY, 1216742139: THING 4 to 11, then 1445843439: to 15.
     */
    private static void drawnByDraws() {
        NextNames x = Checks.land("n16,0;t0,0;t0,0;t0,0;t0,0;t0,0;s1,5,0;s1,11,0;s1,3,0;s0,2,0;s4,11,0;s4,15,0;s4,13,0;");
        int[][] runs = {{3, 1, 126}, {3, 2, 126}, {127773, 1, 125}, {127774, 1, 123}, {999997, 1, 119}, {999999, 1, 127},
            {999999, 2, 127}, {999999, 3, 111}, {999999, 4, 79}, {1, 6, 127}, {2, 2, 127}};
        for (int[] run : runs) {
            C.due("by " + run[0] + " in " + run[1], x.drawn(run[1], run[0], 0), run[2]);
            C.due("died by " + run[0] + " in " + run[1], x.drawn(run[1], run[0], 1), 7 - Integer.bitCount(run[2]));
        }
        C.due("nothing is carried", x.thing(1, 0) + x.thing(0, 0) + x.thing(4, 0), 0);
        C.due("all live", x.count(4), 127);
        x.nail(1, 1);
        C.due("nailed down it is carried", x.drawn(1, 3, 0), 126);
        x = Checks.land("n16,0;t0,0;s0,5,0;s0,0,0;");
        // The one THING is carried from 0 to 5: he who stands at 5 dies, and he who stands at 0 does not.
        C.due("one thing: 50421 by 1 leaves 0", x.drawn(1, 3, 0), 2);
        C.due("not carried", x.drawn(1, 1, 0), 1);
        x.days(1);
        C.due("how many died in these, not before", x.drawn(1, 3, 1), 1);
    }

    /** YEARS up to 60 DAYS: reckoned here for walkers by 0 whose THINGS stand, until they are carried. */
    private static void drawnForSixtyDays() {
        NextNames x = Checks.land("n13,0;t0,0;t1,0;t2,0;t3,0;w0,12,0;w1,7,0;w2,3,0;w3,5,0;w0,6,0;w1,4,0;w2,1,0;");
        int[] at = {12, 7, 3, 5, 6, 4, 1};
        for (int seed : new int[] {1, 7, 4711, 500000, 999999}) {
            int[] things = {0, 1, 2, 3};
            int living = 127;
            long drawn = seed;
            for (int n = 0; n <= 60; n++) {
                C.due("by " + seed + " in " + n, x.drawn(n, seed, 0), living);
                drawn = drawn * 16807 % 2147483647;
                if (drawn % 3 == 0) {
                    things[(int) (drawn % 4)] = (int) (drawn % 13);
                }
                for (int p = 0; p < 7; p++) {
                    living &= at[p] == things[p % 4] ? ~(1 << p) : -1;
                }
            }
        }
    }

    /** Promises 34 and 35: "An IMAGE (0, 1) .. BAD", ahead of STATE. */
    private static void imagesAreTwo() {
        NextNames x = new NextNames();
        int[] wrong = {-1, 2, Checks.LEAST, Checks.MOST};
        for (int k : wrong) {
            C.due("no land: image " + k, x.image(k), Checks.BAD);
            C.due("no land: restore " + k, x.restore(k), Checks.BAD);
        }
        Checks.read(x, "n16,0;t15,0;w0,0,0;");
        C.due("image 0", x.image(0), 1);
        x.carry(0, 7);
        C.due("image 1", x.image(1), 1);
        for (int k : wrong) {
            C.due("image " + k, x.image(k), Checks.BAD);
            C.due("restore " + k, x.restore(k), Checks.BAD);
        }
        C.due("restore 0", x.restore(0), 1);
        C.due("as it was", x.thing(0, 0), 15);
        C.due("restore 1", x.restore(1), 1);
        C.due("as it was", x.thing(0, 0), 7);
    }

    /** Promise 34: "STATE: no LAND." */
    private static void imageWithoutALand() {
        NextNames x = new NextNames();
        C.due("0", x.image(0), Checks.STATE);
        C.due("1", x.image(1), Checks.STATE);
        Checks.read(x, "n16,0;t15,0;w0,0,");
        C.due("a fault is no land", x.image(0), Checks.STATE);
        C.due("none was kept", x.restore(0), Checks.STATE);
    }

    /** Promise 35: "STATE: none was kept", each by itself. */
    private static void restoreWithoutAnImage() {
        NextNames x = Checks.land("n16,0;t15,0;w0,0,0;");
        x.carry(0, 7);
        C.due("0", x.restore(0), Checks.STATE);
        C.due("1", x.restore(1), Checks.STATE);
        C.due("the land stays", x.thing(0, 0), 7);
        C.due("and its act", x.count(6), 1);
        x.image(1);
        C.due("0, yet", x.restore(0), Checks.STATE);
        C.due("1", x.restore(1), 1);
    }

    /** Promise 35: "The LAND is as an IMAGE kept it": full ones, up to the last PERSON and THING, over smaller ones. */
    private static void restoredIsAsKept() {
        NextNames x = Checks.land("n16,9;t0,1;t1,2;t2,3;t3,4;t15,5;w0,8,1;w0,9,1;w0,10,1;w0,11,1;w0,12,1;w0,13,1;r4,4,7;");
        x.nail(4, 1);
        x.keepIn(6, 59);
        x.carry(4, 4);
        x.days(10);
        C.due("he is dead", x.person(6, 3), 0);
        int[] person = {4, 4, 7, 0, 49, 9};
        int[] thing = {4, 5, 1, 64};
        x.image(0);
        Checks.read(x, "n2,0;t0,0;w0,0,0;");
        x.image(1);
        for (int turn = 0; turn < 3; turn++) {
            C.due("the great one", x.restore(0), 1);
            for (int what = 0; what < 6; what++) {
                C.due("person, what " + what, x.person(6, what), person[what]);
            }
            for (int what = 0; what < 4; what++) {
                C.due("thing, what " + what, x.thing(4, what), thing[what]);
            }
            int[] counts = {0, 5, 7, 10, 63, 16, 0, 0};
            for (int what = 0; what < 8; what++) {
                C.due("count " + what, x.count(what), counts[what]);
            }
            C.due("kind", x.kind(6), 5);
            x.carry(4, 15);
            x.nail(4, 0);
            x.days(5);
            C.due("the small one", x.restore(1), 1);
            C.due("one", x.count(2), 1);
            C.due("no second", x.kind(1), Checks.BAD);
            C.due("day", x.count(3), 0);
            x.days(1);
        }
        C.due("another in place of it", x.image(0), 1);
        C.due("restored", x.restore(0), 1);
        C.due("a dead one", x.count(4) * 10 + x.count(2), 1);
    }

    /** Promise 35: "(no ACT can be undone then)". */
    private static void restoredCannotBeUndone() {
        NextNames x = Checks.land("n16,0;t15,0;w0,0,0;");
        x.carry(0, 7);
        x.image(0);
        C.due("an image leaves the acts", x.undo(), 0);
        x.carry(0, 6);
        C.due("restored", x.restore(0), 1);
        C.due("acts", x.count(6), 0);
        C.due("undo", x.undo(), Checks.STATE);
        C.due("as kept", x.thing(0, 0), 7);
        for (int i = 0; i < 24; i++) {
            x.carry(0, i % 5);
        }
        C.due("24 acts", x.count(6), 24);
        for (int i = 0; i < 24; i++) {
            x.undo();
        }
        C.due("back to it", x.thing(0, 0), 7);
    }
}
