/** The boundary cases of promises 6 to 8, and of TEXTS and FAULTS: a method for each sentence that names one. */
public final class EdgeTextTest {
    private static final Checks C = new Checks();
    private static final String THING = "t0,0;", PERSON = "w0,0,0;";

    public static void main(String[] args) {
        aByte();
        aHundredBytes();
        tapeIsEmptyThen();
        nothingOnTheTape();
        placesOfTheRing();
        late();
        placeOfAThing();
        goes();
        fiveThings();
        nameOfAPerson();
        placeOfAPerson();
        step();
        sevenPeople();
        oneThingAtLeast();
        onePersonAtLeast();
        figures();
        everyByteInEveryPlace();
        theEnd();
        firstToken();
        leastOfOneToken();
        landInPlace();
        faultIsTheLatest();
        C.end();
    }

    private static void sound(String text, int people) {
        NextNames x = new NextNames();
        C.due(text + " land", Checks.read(x, text), people);
        C.due(text + " fault", x.fault(), 0);
    }

    private static void fault(String text, int place, int number) {
        NextNames x = new NextNames();
        C.due(text + " land", Checks.read(x, text), -1000100 - place);
        C.due(text + " fault", x.fault(), number);
        C.due(text + " places", x.count(5), 0);
        C.due(text + " tape", x.count(7), 0);
    }

    /** Promise 6: "A byte (0 to 255) .. BAD". */
    private static void aByte() {
        NextNames x = new NextNames();
        C.due("0", x.feed(0), 1);
        C.due("255", x.feed(255), 2);
        for (int letter : new int[] {-1, 256, Checks.LEAST, Checks.MOST}) {
            C.due("byte " + letter, x.feed(letter), Checks.BAD);
            C.due("bytes", x.count(7), 2);
        }
    }

    /** Promise 6: "FULL"; part 1: "THE TAPE has at most 100 bytes"; 100 of them are read. */
    private static void aHundredBytes() {
        String text = "n16,09;" + "t15,15;".repeat(5) + "w04,15,9;".repeat(2) + "r4,15,9;".repeat(5);
        C.due("a full tape", text.length(), 100);
        NextNames x = new NextNames();
        for (int i = 0; i < 100; i++) {
            C.due("feed " + i, x.feed(text.charAt(i)), i + 1);
        }
        C.due("one more", x.feed(';'), Checks.FULL);
        C.due("the least", x.feed(0), Checks.FULL);
        C.due("the greatest", x.feed(255), Checks.FULL);
        C.due("BAD ahead of FULL", x.feed(256), Checks.BAD);
        C.due("BAD ahead of FULL", x.feed(-1), Checks.BAD);
        C.due("bytes", x.count(7), 100);
        C.due("what was refused is not read", x.land(), 7);
        C.due("the last one's step", x.person(6, 2), 9);
        C.due("there is room again", x.feed('n'), 1);
        String cut = "n16,09;" + "t15,15;".repeat(5) + "w04,15,9;".repeat(3) + "r4,15,9;".repeat(3) + "r4,15,";
        cut += "8".repeat(100 - cut.length());
        C.due("99 bytes more", cut.length(), 100);
        x = new NextNames();
        Checks.feed(x, cut + ";");
        C.due("the hundredth is the last", x.land(), -1000200);
        C.due("its fault", x.fault(), 1);
    }

    /** Promise 7: "The tape, empty then, is read". */
    private static void tapeIsEmptyThen() {
        NextNames x = new NextNames();
        C.due("sound", Checks.read(x, "n2,0;" + THING + PERSON), 1);
        C.due("bytes", x.count(7), 0);
        C.due("a fault", Checks.read(x, "n2,0;" + THING + "w0,0,0"), -1000116);
        C.due("bytes", x.count(7), 0);
        C.due("only what came behind it", Checks.read(x, ";"), -1000100);
        C.due("a figure that stood there", Checks.read(x, "n2,12;"), -1000103);
        C.due("is not read", Checks.read(x, "n2,1"), -1000104);
        C.due("bytes", x.feed('n'), 1);
    }

    /** Promise 7, FAULT 1: "the end: how many bytes there are": none. */
    private static void nothingOnTheTape() {
        fault("", 0, 1);
        NextNames x = Checks.land("n2,0;" + THING + PERSON);
        C.due("behind a land", x.land(), -1000100);
        C.due("its fault", x.fault(), 1);
        C.due("the land stays", x.count(5), 2);
    }

    /** Each number 0 to 99 in a place of a text: up to most, from least on, it is taken, else it is FAULT 2 there. */
    private static void range(String ahead, String behind, int least, int most, String name, int... args) {
        for (int v = 0; v < 100; v++) {
            number(ahead, v, Integer.toString(v), behind, v >= least && v <= most, name, args);
            if (v < 10) {
                number(ahead, v, "0" + v, behind, v >= least && v <= most, name, args);
            }
        }
    }

    private static void number(String ahead, int v, String told, String behind, boolean fits, String name, int... args) {
        String text = ahead + told + behind;
        if (!fits) {
            fault(text, ahead.length(), 2);
            return;
        }
        NextNames x = new NextNames();
        C.due(text + " land", Checks.read(x, text), 1);
        if (!name.isEmpty()) {
            C.due(text + " " + name, Checks.answer(x, name, args), v);
        }
    }

    /** "law: n PLACES , LATE ; (2 to 16 ..". */
    private static void placesOfTheRing() {
        range("n", ",0;" + THING + PERSON, 2, 16, "count", 5);
    }

    /** "law: .. (.. 0 to 9)": by LATE one is driven on from 0, his THING is at 15. */
    private static void late() {
        range("n16,", ";t15,0;r0,0,0;", 0, 9, "ahead", 0, 1);
    }

    /** "thing: t PLACE , .. (a PLACE ..": less than PLACES, of the smallest, of another, of the greatest ring. */
    private static void placeOfAThing() {
        range("n2,0;t", ",0;" + PERSON, 0, 1, "thing", 0, 0);
        range("n7,0;t", ",0;" + PERSON, 0, 6, "thing", 0, 0);
        range("n16,0;t", ",0;" + PERSON, 0, 15, "thing", 0, 0);
    }

    /** "thing: .. GOES (.. 0 to 15)", whatever the ring. */
    private static void goes() {
        range("n2,0;t0,", ";" + PERSON, 0, 15, "thing", 0, 1);
        range("n16,0;t0,", ";" + PERSON, 0, 15, "thing", 0, 1);
    }

    /** "THINGS 0 .. 4, 5 at most"; FAULT 3 "a thing .. more than there is room for (its letter)". */
    private static void fiveThings() {
        for (int things = 1; things <= 5; things++) {
            NextNames x = new NextNames();
            C.due(things + " things", Checks.read(x, "n16,0;" + "t0,0;".repeat(things - 1) + "t15,15;" + PERSON), 1);
            C.due("things", x.count(1), things);
            C.due("the last one's place", x.thing(things - 1, 0), 15);
            C.due("the last one goes", x.thing(things - 1, 1), 15);
            C.due("no more", x.thing(things, 0), Checks.BAD);
        }
        fault("n2,0;" + THING.repeat(6) + PERSON, 30, 3);
        fault("n2,0;" + THING.repeat(7) + PERSON, 30, 3);
        fault("n2,0;" + THING.repeat(5) + "t", 30, 3);
        fault("n2,0;" + THING.repeat(5) + "t99,99;", 30, 3);
        fault("n2,0;" + THING.repeat(5), 30, 1);
    }

    /** "person: SORT NAME .. (.. a THING told ..": one, and five. */
    private static void nameOfAPerson() {
        range("n2,0;" + THING + "w", ",0,0;", 0, 0, "person", 0, 0);
        range("n2,0;" + THING.repeat(2) + "k", ",0,0;", 0, 1, "person", 0, 0);
        range("n2,0;" + THING.repeat(5) + "r", ",0,0;", 0, 4, "person", 0, 0);
    }

    /** "person: .. PLACE .. (.. a PLACE ..". */
    private static void placeOfAPerson() {
        range("n2,0;" + THING + "b0,", ",0;", 0, 1, "person", 0, 1);
        range("n7,0;" + THING + "b0,", ",0;", 0, 6, "person", 0, 1);
        range("n16,0;" + THING + "b0,", ",0;", 0, 15, "person", 0, 1);
    }

    /** "person: .. STEP (.. 0 to 9 ..". */
    private static void step() {
        range("n2,0;" + THING + "s0,0,", ";", 0, 9, "person", 0, 2);
        range("n16,0;" + THING + "w0,0,", ";", 0, 9, "person", 0, 2);
    }

    /** "PEOPLE 0 .. 6, 7 at most"; FAULT 3 "a person more than there is room for (its letter)". */
    private static void sevenPeople() {
        for (int people = 1; people <= 7; people++) {
            NextNames x = new NextNames();
            C.due(people + " people", Checks.read(x, "n16,0;t0,0;t0,0;" + PERSON.repeat(people - 1) + "r1,15,9;"), people);
            C.due("people", x.count(2), people);
            C.due("all live", x.count(4), (1 << people) - 1);
            C.due("the last one's kind", x.kind(people - 1), 5);
            C.due("the last one's name", x.person(people - 1, 0), 1);
            C.due("the last one's place", x.person(people - 1, 1), 15);
            C.due("the last one's step", x.person(people - 1, 2), 9);
            C.due("no more", x.person(people, 0), Checks.BAD);
        }
        String seven = "n2,0;" + THING + PERSON.repeat(7);
        for (char sort : "wkbsr".toCharArray()) {
            fault(seven + sort + "0,0,0;", 59, 3);
            fault(seven + sort, 59, 3);
        }
        fault(seven + PERSON.repeat(2), 59, 3);
        fault(seven + "n", 59, 1);
    }

    /** "land: law thing { thing } ..": none is too few. */
    private static void oneThingAtLeast() {
        fault("n2,0;" + PERSON, 5, 1);
        fault("n2,0;", 5, 1);
        sound("n2,0;" + THING + PERSON, 1);
    }

    /** "land: .. person { person }": none is too few, and things come no more behind one. */
    private static void onePersonAtLeast() {
        fault("n2,0;" + THING, 10, 1);
        fault("n2,0;" + THING + "n2,0;", 10, 1);
        sound("n2,0;" + THING + PERSON, 1);
        fault("n2,0;" + THING + PERSON + THING, 17, 1);
        fault("n2,0;" + THING + PERSON + "n2,0;", 17, 1);
    }

    /** "NUMBERS (figures, 2 at most)"; FAULT 1 "a run of three figures, at its first". */
    private static void figures() {
        sound("n02,00;t00,00;w00,00,00;", 1);
        sound("n16,09;t15,15;w00,15,09;", 1);
        fault("n002,0;" + THING + PERSON, 1, 1);
        fault("n2,000;" + THING + PERSON, 3, 1);
        fault("n2,0;t000,0;" + PERSON, 6, 1);
        fault("n2,0;t0,000;" + PERSON, 8, 1);
        fault("n2,0;" + THING + "w000,0,0;", 11, 1);
        fault("n2,0;" + THING + "w0,000,0;", 13, 1);
        fault("n2,0;" + THING + "w0,0,000;", 15, 1);
        fault("n0002,0;", 1, 1);
        fault("n00000", 1, 1);
        fault("n2,0;" + THING + "w0,0,000", 15, 1);
        fault("000", 0, 1);
    }

    /** FAULT 1: "it cannot stand there, or is none": every byte behind a text; what can stand there goes on. */
    private static void behind(String ahead, String goesOn) {
        boolean twoFigures = ahead.matches(".*[0-9][0-9]");
        for (int b = 0; b < 256; b++) {
            String text = ahead + (char) b;
            if (goesOn.indexOf(b) >= 0) {
                fault(text, text.length(), 1);
            } else if (twoFigures && b >= '0' && b <= '9') {
                fault(text, ahead.length() - 2, 1);
            } else {
                fault(text, ahead.length(), 1);
            }
        }
    }

    /** The same where a figure can stand, or make a NUMBER of two that is as told or is not: it is read from start on. */
    private static void behind(String ahead, String goesOn, int start, String notAsTold) {
        for (int b = 0; b < 256; b++) {
            String text = ahead + (char) b;
            if (goesOn.indexOf(b) >= 0) {
                fault(text, text.length(), 1);
            } else if (notAsTold.indexOf(b) >= 0) {
                fault(text, start, 2);
            } else {
                fault(text, ahead.length(), 1);
            }
        }
    }

    private static void everyByteInEveryPlace() {
        String all = "0123456789";
        behind("", "n");
        behind("n", "23456789", 1, "01");
        behind("n2", ",", 1, all);
        behind("n02", ",");
        behind("n2,", all);
        behind("n2,9", ";", 3, all);
        behind("n2,09", ";");
        behind("n2,9;", "t");
        behind("n2,9;t", "01", 6, "23456789");
        behind("n2,9;t01", ",");
        behind("n2,9;t1,", all);
        behind("n2,9;t1,1", ";012345", 8, "6789");
        behind("n2,9;t1,01", ";");
        behind("n2,9;t1,1;", "twkbsr");
        behind("n2,9;t1,1;w", "0", 11, "123456789");
        behind("n2,9;t1,1;w00", ",");
        behind("n2,9;t1,1;w0,", "01", 13, "23456789");
        behind("n2,9;t1,1;w0,01", ",");
        behind("n2,9;t1,1;w0,1,", all);
        behind("n2,9;t1,1;w0,1,1;", "wkbsr");
        for (int b = 0; b < 256; b++) {
            if (b != ';') {
                boolean figure = b >= '0' && b <= '9';
                fault("n2,9;t1,1;w0,1,01" + (char) b, figure ? 15 : 17, 1);
            }
            boolean figure = b >= '0' && b <= '6';
            fault("n1" + (char) b, figure ? 3 : 1, figure ? 1 : 2);
        }
        sound("n2,9;t1,1;w0,1,01;", 1);
    }

    /** FAULT 1: "the end: how many bytes there are": a text that ends too early, anywhere. */
    private static void theEnd() {
        String text = "n16,9;t15,15;t0,0;w1,15,9;r0,0,0;";
        for (int n = 0; n < text.length(); n++) {
            String cut = text.substring(0, n);
            if (n == 2) {
                fault(cut, 1, 2);
            } else if (n == 26) {
                sound(cut, 1);
            } else {
                fault(cut, n, 1);
            }
        }
        sound(text, 2);
    }

    /** FAULTS: "the first TOKEN that has one (its first byte)". */
    private static void firstToken() {
        fault("n1,10;t9,16;", 1, 2);
        fault("n2,10;t9,16;", 3, 2);
        fault("n2,0;t9,16;x", 6, 2);
        fault("n2,0;t1,16 w", 8, 2);
        fault("n2,0;t1 16;", 7, 1);
        fault("n2,0;t1,15;w1,9,99;", 12, 2);
        fault("n2,0;" + THING.repeat(5) + "t9,99;" + PERSON.repeat(8), 30, 3);
        fault("n17 ", 1, 2);
        fault("n16 ", 3, 1);
        fault("n2,0;" + THING + PERSON.repeat(6) + "w0,0,10;" + PERSON, 57, 2);
    }

    /** FAULTS: "of one TOKEN the least": 1 ahead of 2 and of 3. */
    private static void leastOfOneToken() {
        fault("n999,0;", 1, 1);
        fault("n2,0;t999,0;", 6, 1);
        fault("n2,0;" + THING.repeat(5) + PERSON + "t", 37, 1);
        fault("n2,0;" + THING + PERSON.repeat(7) + "t", 59, 1);
        fault("n2,0;" + THING.repeat(5) + PERSON.repeat(7) + "t", 79, 1);
        fault("99", 0, 1);
    }

    /** Part 1: "A LAND that is read stands in place of the one before: DAY 0, all live, nobody is kept in ..". */
    private static void landInPlace() {
        NextNames x = Checks.land("n5,1;t2,1;t3,1;w0,3,0;s0,1,0;w1,3,0;");
        x.nail(0, 1);
        x.nail(1, 1);
        x.keepIn(1, 60);
        C.due("one dies", x.days(3), 1);
        C.due("who lives", x.count(4), 3);
        C.due("another land", Checks.read(x, "n16,0;t15,2;t14,1;w0,2,0;w1,1,3;r0,0,9;"), 3);
        C.due("day", x.count(3), 0);
        C.due("all live", x.count(4), 7);
        C.due("places", x.count(5), 16);
        C.due("no act", x.count(6), 0);
        C.due("none can be undone", x.undo(), Checks.STATE);
        for (int p = 0; p < 3; p++) {
            C.due("nobody is kept in", x.person(p, 4), 0);
            C.due("nobody died", x.person(p, 5), Checks.NONE);
        }
        for (int t = 0; t < 2; t++) {
            C.due("nothing is nailed down", x.thing(t, 2), 0);
        }
        C.due("fewer", Checks.read(x, "n2,0;" + THING + PERSON), 1);
        C.due("who lives", x.count(4), 1);
        C.due("no second", x.person(1, 1), Checks.BAD);
        C.due("no second thing", x.thing(1, 0), Checks.BAD);
        C.due("no third place", x.move(0, 2), Checks.BAD);
        C.due("an image of one that has gone on", x.days(2) + x.nail(0, 1) + x.image(1), 3);
        C.due("dead", x.count(4), 0);
        C.due("again", Checks.read(x, "n2,0;" + THING + PERSON), 1);
        C.due("he lives", x.person(0, 3), 1);
        C.due("he dies on day", x.days(1) + x.person(0, 5), 1);
    }

    /** Promise 8: "The number of the latest FAULT; 0 before one." */
    private static void faultIsTheLatest() {
        NextNames x = new NextNames();
        C.due("before one", x.fault(), 0);
        Checks.read(x, "n2,0;" + THING + PERSON);
        C.due("before one, yet", x.fault(), 0);
        x.feed(256);
        x.days(99);
        C.due("what is refused is none", x.fault(), 0);
        Checks.read(x, "n2,0;" + THING.repeat(6));
        C.due("3", x.fault(), 3);
        Checks.read(x, "n1");
        C.due("2", x.fault(), 2);
        x.land();
        C.due("1", x.fault(), 1);
        Checks.read(x, "n1");
        C.due("2 again", x.fault(), 2);
        Checks.read(x, "n2,0;" + THING + PERSON);
        C.due("a sound one is none", x.fault(), 2);
    }
}
