/** The boundary cases of promises 1 to 5 and 41: a method for each sentence that names one. */
public final class EdgeRowsTest {
    private static final Checks C = new Checks();

    public static void main(String[] args) {
        newObjectHasNoLand();
        rowsAreMissingAtFirst();
        rowsAreEight();
        lanesAreThree();
        itemsAreForty();
        fewerThanNone();
        itemsAre0AtFirst();
        inPlaceOfWhatIsThere();
        lowestBits();
        setWithinARow();
        setOfARowThatIsMissing();
        fullRowsLieApart();
        copyOfNone();
        copyOfAll();
        copyBelow0();
        copyBeyondAnEnd();
        copyOfMissingRows();
        copyOfTwoLanes();
        copyAsTheyWere();
        dropTakesARow();
        statusAtFirst();
        statusOfTheLatest();
        statusIsLeft();
        C.end();
    }

    /** Promise 1: "No LAND." */
    private static void newObjectHasNoLand() {
        NextNames x = new NextNames();
        for (int what = 0; what < 8; what++) {
            C.due("new: count " + what, x.count(what), 0);
        }
        C.due("new: life", x.life(), Checks.STATE);
        C.due("new: kind of the first", x.kind(0), Checks.BAD);
        C.due("new: the first thing", x.thing(0, 0), Checks.BAD);
        C.due("new: undo", x.undo(), Checks.STATE);
        C.due("new: restore", x.restore(1), Checks.STATE);
        C.due("new: fault", x.fault(), 0);
        C.due("new: trace", x.trace(0), Checks.NONE);
        C.due("new: status", x.status(), 0);
    }

    /** Part 1: "ROWS 0 .. 7 are missing (at first)". */
    private static void rowsAreMissingAtFirst() {
        NextNames x = new NextNames();
        for (int r = 0; r < 8; r++) {
            C.due("at first: drop " + r, x.drop(r), Checks.NULL);
            C.due("at first: set " + r, x.set(r, 0, 1), Checks.NULL);
        }
        C.due("at first: rows", x.count(0), 0);
    }

    /** Promises 2 to 5: "BAD: ROW". */
    private static void rowsAreEight() {
        NextNames x = new NextNames();
        for (int r = 0; r < 8; r++) {
            C.due("row " + r, x.row(r, 0, 1), 1);
            C.due("rows", x.count(0), r + 1);
            C.due("set " + r, x.set(r, 0, r), r);
            C.due("copy " + r, x.copy(r, 0, 0, 0, 1), 1);
            C.due("copy to " + r, x.copy(0, 0, r, 0, 1), 1);
        }
        for (int r : new int[] {-1, 8, Checks.LEAST, Checks.MOST}) {
            C.due("row " + r, x.row(r, 0, 1), Checks.BAD);
            C.due("set " + r, x.set(r, 0, 1), Checks.BAD);
            C.due("copy " + r, x.copy(r, 0, 0, 0, 1), Checks.BAD);
            C.due("copy to " + r, x.copy(0, 0, r, 0, 1), Checks.BAD);
            C.due("drop " + r, x.drop(r), Checks.BAD);
        }
        C.due("rows", x.count(0), 8);
        for (int r = 0; r < 8; r++) {
            C.due("drop " + r, x.drop(r), 1);
            C.due("rows", x.count(0), 7 - r);
        }
    }

    /** Promise 2: "BAD: .. LANE", "a LANE (0 bytes, 1 shorts, 2 ints)". */
    private static void lanesAreThree() {
        NextNames x = new NextNames();
        int[] kept = {64, 40000 - 65536, 40000};
        for (int lane = 0; lane < 3; lane++) {
            C.due("lane " + lane, x.row(0, lane, 1), 1);
            C.due("40000 in lane " + lane, x.set(0, 0, 40000), kept[lane]);
        }
        for (int lane : new int[] {-1, 3, Checks.LEAST, Checks.MOST}) {
            C.due("lane " + lane, x.row(0, lane, 1), Checks.BAD);
            C.due("lane " + lane + " ahead of SIZE", x.row(0, lane, -1), Checks.BAD);
        }
        C.due("its lane stays", x.set(0, 0, 40000), 40000);
    }

    /** Promise 2: "BAD: .. n above 40"; part 1: "0 to 40 ITEMS". */
    private static void itemsAreForty() {
        NextNames x = new NextNames();
        C.due("none", x.row(0, 0, 0), 0);
        C.due("a row of none is there", x.count(0), 1);
        C.due("one", x.row(0, 0, 1), 1);
        C.due("39", x.row(0, 0, 39), 39);
        C.due("40", x.row(0, 0, 40), 40);
        C.due("41", x.row(0, 0, 41), Checks.BAD);
        C.due("greatest", x.row(0, 0, Checks.MOST), Checks.BAD);
        C.due("the last of 40", x.set(0, 39, 5), 5);
        C.due("behind it", x.set(0, 40, 5), Checks.PLACE);
        C.due("it has 40", x.drop(0), 40);
    }

    /** Promise 2: "SIZE" (fewer than none). */
    private static void fewerThanNone() {
        NextNames x = new NextNames();
        C.due("-1", x.row(0, 0, -1), Checks.SIZE);
        C.due("its finding", x.status(), 4);
        C.due("least", x.row(0, 2, Checks.LEAST), Checks.SIZE);
        C.due("no row comes of it", x.count(0), 0);
        C.due("row 8 ahead of it", x.row(8, 0, -1), Checks.BAD);
        C.due("row -1 ahead of it", x.row(-1, 0, -1), Checks.BAD);
    }

    /** Part 1: "ITEMS, 0 at first", the row that stood there had others. */
    private static void itemsAre0AtFirst() {
        NextNames x = Checks.land(Checks.GLASS);
        for (int r = 0; r < 8; r += 7) {
            x.row(r, 0, 40);
            x.set(r, 0, 7);
            x.set(r, 20, 7);
            x.set(r, 39, 7);
            C.due("as set", Checks.item(x, r, 39), 7);
            x.row(r, 0, 40);
            for (int i = 0; i < 40; i++) {
                C.due("item " + i + " of " + r, Checks.item(x, r, i), 0);
            }
        }
    }

    /** Promise 2: "in place of what is there". */
    private static void inPlaceOfWhatIsThere() {
        NextNames x = new NextNames();
        x.row(3, 2, 5);
        C.due("fewer", x.row(3, 0, 2), 2);
        C.due("one row yet", x.count(0), 1);
        C.due("the third is gone", x.set(3, 2, 1), Checks.PLACE);
        C.due("a byte now", x.set(3, 1, 256), 0);
        C.due("more", x.row(3, 1, 9), 9);
        C.due("the ninth", x.set(3, 8, 256), 256);
        C.due("a row of none in its place", x.row(3, 1, 0), 0);
        C.due("no first", x.set(3, 0, 1), Checks.PLACE);
    }

    /** Promise 3: "its lowest bits, as many as the LANE has: what it is then". */
    private static void lowestBits() {
        NextNames x = new NextNames();
        int[][] bytes = {{127, 127}, {128, -128}, {-128, -128}, {-129, 127}, {255, -1}, {256, 0}, {-256, 0}, {-257, -1}};
        int[][] shorts = {{32767, 32767}, {32768, -32768}, {-32768, -32768}, {-32769, 32767}, {65535, -1}, {65536, 0}};
        int[] wild = {Checks.LEAST, Checks.MOST};
        x.row(0, 0, 1);
        x.row(1, 1, 1);
        x.row(2, 2, 1);
        for (int[] one : bytes) {
            C.due("byte of " + one[0], x.set(0, 0, one[0]), one[1]);
        }
        for (int[] one : shorts) {
            C.due("short of " + one[0], x.set(1, 0, one[0]), one[1]);
        }
        for (int v : wild) {
            C.due("byte of " + v, x.set(0, 0, v), v < 0 ? 0 : -1);
            C.due("short of " + v, x.set(1, 0, v), v < 0 ? 0 : -1);
            C.due("int of " + v, x.set(2, 0, v), v);
        }
        Checks.read(x, Checks.GLASS);
        x.set(0, 0, 256 + 5);
        C.due("kept so", Checks.item(x, 0, 0), 5);
        x.set(1, 0, 65535);
        C.due("kept so", Checks.item(x, 1, 0), -1);
    }

    /** Promise 3: "PLACE" (no such place of a ROW). */
    private static void setWithinARow() {
        NextNames x = new NextNames();
        x.row(0, 0, 3);
        x.row(1, 0, 0);
        C.due("first", x.set(0, 0, 1), 1);
        C.due("last", x.set(0, 2, 1), 1);
        for (int i : new int[] {-1, 3, Checks.LEAST, Checks.MOST}) {
            C.due("place " + i, x.set(0, i, 1), Checks.PLACE);
            C.due("its finding", x.status(), 2);
        }
        C.due("of none", x.set(1, 0, 1), Checks.PLACE);
        C.due("of none", x.set(1, -1, 1), Checks.PLACE);
    }

    /** Promise 3: "NULL; PLACE": what is missing is found first. */
    private static void setOfARowThatIsMissing() {
        NextNames x = new NextNames();
        C.due("missing", x.set(7, 0, 1), Checks.NULL);
        C.due("its finding", x.status(), 1);
        C.due("NULL ahead of PLACE", x.set(7, -1, 1), Checks.NULL);
        C.due("NULL ahead of PLACE", x.set(7, Checks.MOST, 1), Checks.NULL);
        C.due("BAD ahead of NULL", x.set(8, 0, 1), Checks.BAD);
        x.row(7, 0, 1);
        x.drop(7);
        C.due("missing again", x.set(7, 0, 1), Checks.NULL);
    }

    /** Part 1: eight ROWS of 40: what is set at an end of one is not seen in the next. */
    private static void fullRowsLieApart() {
        NextNames x = Checks.land(Checks.GLASS);
        for (int r = 0; r < 8; r++) {
            x.row(r, r % 3, 40);
            x.set(r, 0, r);
            x.set(r, 39, 7 - r);
        }
        for (int r = 0; r < 8; r++) {
            C.due("first of " + r, Checks.item(x, r, 0), r);
            C.due("second of " + r, Checks.item(x, r, 1), 0);
            C.due("last but one of " + r, Checks.item(x, r, 38), 0);
            C.due("last of " + r, Checks.item(x, r, 39), 7 - r);
        }
        x.row(4, 0, 40);
        C.due("a new one leaves the last of the one before", Checks.item(x, 3, 39), 4);
        C.due("and the first of the next", Checks.item(x, 5, 0), 5);
        C.due("bytes 0 to 6", x.copy(0, 0, 6, 0, 40), 40);
        C.due("first", Checks.item(x, 6, 0), 0);
        C.due("last", Checks.item(x, 6, 39), 7);
        C.due("the one before stays", Checks.item(x, 5, 39), 2);
        C.due("the next stays", Checks.item(x, 7, 0), 7);
        x.set(6, 0, 8);
        C.due("what was copied stays", Checks.item(x, 0, 0), 0);
    }

    /** Promise 4: "n ITEMS": none, also behind the last. */
    private static void copyOfNone() {
        NextNames x = new NextNames();
        x.row(0, 0, 4);
        x.row(1, 0, 0);
        C.due("at first", x.copy(0, 0, 1, 0, 0), 0);
        C.due("at both ends", x.copy(0, 4, 0, 4, 0), 0);
        C.due("of rows of none", x.copy(1, 0, 1, 0, 0), 0);
        C.due("beyond the one end", x.copy(0, 5, 1, 0, 0), Checks.PLACE);
        C.due("beyond the other end", x.copy(0, 4, 1, 1, 0), Checks.PLACE);
    }

    /** Promise 4: "n ITEMS of a from i on come to b from j on": all of 40, and up to both ends. */
    private static void copyOfAll() {
        NextNames x = Checks.land(Checks.GLASS);
        x.row(2, 1, 40);
        x.row(5, 1, 40);
        for (int i = 0; i < 40; i++) {
            x.set(2, i, i % 9);
        }
        C.due("forty", x.copy(2, 0, 5, 0, 40), 40);
        for (int i = 0; i < 40; i++) {
            C.due("item " + i, Checks.item(x, 5, i), i % 9);
        }
        C.due("the last alone to the first", x.copy(2, 39, 5, 0, 1), 1);
        C.due("first", Checks.item(x, 5, 0), 3);
        C.due("second", Checks.item(x, 5, 1), 1);
        C.due("the first alone to the last", x.copy(2, 0, 5, 39, 1), 1);
        C.due("last", Checks.item(x, 5, 39), 0);
        C.due("last but one", Checks.item(x, 5, 38), 2);
    }

    /** Promise 4: "PLACE (i, j, n below 0 ..". */
    private static void copyBelow0() {
        NextNames x = new NextNames();
        x.row(0, 0, 4);
        x.row(1, 0, 4);
        for (int below : new int[] {-1, -40, Checks.LEAST}) {
            C.due("i " + below, x.copy(0, below, 1, 0, 1), Checks.PLACE);
            C.due("j " + below, x.copy(0, 0, 1, below, 1), Checks.PLACE);
            C.due("n " + below, x.copy(0, 0, 1, 0, below), Checks.PLACE);
            C.due("i " + below + ", none", x.copy(0, below, 1, 0, 0), Checks.PLACE);
            C.due("j " + below + ", none", x.copy(0, 0, 1, below, 0), Checks.PLACE);
            C.due("n " + below + " at the ends", x.copy(0, 4, 1, 4, below), Checks.PLACE);
            C.due("its finding", x.status(), 2);
        }
    }

    /** Promise 4: "PLACE (.. or beyond an end)". */
    private static void copyBeyondAnEnd() {
        NextNames x = new NextNames();
        x.row(0, 0, 4);
        x.row(1, 0, 3);
        C.due("up to a's end", x.copy(0, 2, 1, 0, 2), 2);
        C.due("beyond a's end", x.copy(0, 2, 1, 0, 3), Checks.PLACE);
        C.due("up to b's end", x.copy(0, 0, 1, 1, 2), 2);
        C.due("beyond b's end", x.copy(0, 0, 1, 1, 3), Checks.PLACE);
        C.due("all of b", x.copy(0, 0, 1, 0, 3), 3);
        C.due("one more than b has", x.copy(0, 0, 1, 0, 4), Checks.PLACE);
        C.due("one more than a has", x.copy(1, 0, 0, 0, 4), Checks.PLACE);
        C.due("n greatest", x.copy(0, 0, 1, 0, Checks.MOST), Checks.PLACE);
        C.due("i greatest", x.copy(0, Checks.MOST, 1, 0, 1), Checks.PLACE);
        C.due("j greatest", x.copy(0, 0, 1, Checks.MOST, 1), Checks.PLACE);
        C.due("i and n run over", x.copy(0, Checks.MOST, 1, 0, Checks.MOST), Checks.PLACE);
        C.due("j and n run over", x.copy(0, 2, 1, Checks.MOST, 2), Checks.PLACE);
    }

    /** Promise 4: "NULL; STORE; PLACE". */
    private static void copyOfMissingRows() {
        NextNames x = new NextNames();
        x.row(0, 0, 4);
        x.row(1, 2, 4);
        C.due("a", x.copy(7, 0, 0, 0, 1), Checks.NULL);
        C.due("b", x.copy(0, 0, 7, 0, 1), Checks.NULL);
        C.due("both", x.copy(6, 0, 7, 0, 1), Checks.NULL);
        C.due("itself", x.copy(7, 0, 7, 0, 0), Checks.NULL);
        C.due("NULL ahead of STORE", x.copy(1, 0, 7, 0, 1), Checks.NULL);
        C.due("NULL ahead of PLACE", x.copy(0, -1, 7, 0, 1), Checks.NULL);
        C.due("BAD ahead of NULL", x.copy(7, 0, 8, 0, 1), Checks.BAD);
        C.due("BAD ahead of STORE", x.copy(1, 0, -1, 0, 1), Checks.BAD);
    }

    /** Promise 4: "STORE" (ROWS of two LANES), ahead of PLACE. */
    private static void copyOfTwoLanes() {
        NextNames x = new NextNames();
        for (int lane = 0; lane < 3; lane++) {
            x.row(lane, lane, 2);
            x.row(lane + 3, lane, 2);
        }
        for (int a = 0; a < 3; a++) {
            for (int b = 0; b < 3; b++) {
                C.due("lanes " + a + " to " + b, x.copy(a, 0, b + 3, 0, 1), a == b ? 1 : Checks.STORE);
                C.due("its finding", x.status(), a == b ? 0 : 5);
                C.due("none of lanes " + a + " to " + b, x.copy(a, 0, b + 3, 0, 0), a == b ? 0 : Checks.STORE);
                C.due("STORE ahead of PLACE", x.copy(a, 0, b + 3, 0, 3), a == b ? Checks.PLACE : Checks.STORE);
                C.due("STORE ahead of PLACE", x.copy(a, -1, b + 3, 0, -1), a == b ? Checks.PLACE : Checks.STORE);
            }
        }
    }

    /** Promise 4: "as they were ahead". */
    private static void copyAsTheyWere() {
        NextNames x = Checks.land(Checks.GLASS);
        int[] later = {1, 1, 2, 3};
        int[] earlier = {2, 3, 4, 4};
        for (int way = 0; way < 2; way++) {
            x.row(0, 0, 4);
            for (int i = 0; i < 4; i++) {
                x.set(0, i, i + 1);
            }
            C.due("onto itself", x.copy(0, way, 0, 1 - way, 3), 3);
            for (int i = 0; i < 4; i++) {
                C.due("item " + i, Checks.item(x, 0, i), way == 0 ? later[i] : earlier[i]);
            }
        }
        C.due("onto itself at one place", x.copy(0, 0, 0, 0, 4), 4);
        C.due("as it was", Checks.item(x, 0, 1), 3);
    }

    /** Promise 5: "how many ITEMS it had. BAD; NULL." */
    private static void dropTakesARow() {
        NextNames x = new NextNames();
        x.row(0, 0, 0);
        x.row(7, 2, 40);
        C.due("of none", x.drop(0), 0);
        C.due("gone", x.drop(0), Checks.NULL);
        C.due("its finding", x.status(), 1);
        C.due("of forty", x.drop(7), 40);
        C.due("gone", x.drop(7), Checks.NULL);
        C.due("row 8", x.drop(8), Checks.BAD);
        C.due("row -1", x.drop(-1), Checks.BAD);
        C.due("a row again", x.row(7, 0, 2), 2);
        C.due("it is there", x.drop(7), 2);
    }

    /** Promise 41: "0: .. or there was none". */
    private static void statusAtFirst() {
        NextNames x = new NextNames();
        C.due("at first", x.status(), 0);
        x.row(8, 0, 0);
        x.drop(-1);
        x.as(0, 0);
        C.due("behind BAD calls alone", x.status(), 0);
    }

    /** Promise 41: "Of the latest call with a ROW, or as() ..: the number of its FINDING; 0: it had none". */
    private static void statusOfTheLatest() {
        String[] calls = {"row", "set", "copy", "drop", "called", "who", "steps", "as"};
        int[][] sound = {{0, 0, 2}, {0, 0, 1}, {0, 0, 0, 0, 1}, {1}, {0, 0, 0, 1}, {0, 0, 0, 1}, {0, 0, 0, 1}, {0, 1}};
        int[][] found = {{0, 0, -1}, {0, 2, 1}, {0, 0, 2, 0, 1}, {7}, {0, 7, 0, 1}, {0, 0, 2, 1}, {0, 7, 0, 1}, {0, 4}};
        int[] findings = {4, 2, 5, 1, 1, 2, 1, 3};
        for (int k = 0; k < calls.length; k++) {
            NextNames x = Checks.land(Checks.GLASS);
            x.row(0, 0, 2);
            x.row(1, 0, 2);
            x.row(2, 1, 2);
            C.due(calls[k] + " finds", Checks.answer(x, calls[k], found[k]), -1000010 - findings[k]);
            C.due("status behind it", x.status(), findings[k]);
            C.due("asked again", x.status(), findings[k]);
            Checks.answer(x, calls[k], sound[k]);
            C.due("status behind a sound " + calls[k], x.status(), 0);
        }
    }

    /** Promise 41: "that was not BAD, STATE, FULL"; and other calls leave it. */
    private static void statusIsLeft() {
        String[] calls = {"row", "row", "row", "set", "copy", "drop", "called", "who", "steps", "as", "as"};
        int[][] bad = {{8, 0, 1}, {0, 3, 1}, {0, 0, 41}, {8, 0, 1}, {0, 0, 8, 0, 1}, {-1}, {0, 0, 0, 13}, {0, 8, 0, 1},
            {1, 0, 0, 1}, {0, 6}, {1, 0}};
        NextNames x = Checks.land(Checks.GLASS);
        x.row(0, 0, 2);
        x.set(0, 2, 1);
        for (int k = 0; k < calls.length; k++) {
            C.due(calls[k] + " is BAD", Checks.answer(x, calls[k], bad[k]), Checks.BAD);
            C.due("status behind it", x.status(), 2);
        }
        C.due("undo", x.undo(), Checks.STATE);
        C.due("nail", x.nail(0, 0), Checks.STATE);
        C.due("days", x.days(1), 0);
        C.due("dies", x.dies(0), Checks.NONE);
        C.due("ask", x.ask(0, 1), 0);
        C.due("feed", x.feed('n'), 1);
        C.due("land", x.land(), -1000101);
        C.due("image", x.image(0), 1);
        C.due("restore", x.restore(0), 1);
        C.due("another land", Checks.read(x, Checks.GLASS), 1);
        C.due("status behind all of them", x.status(), 2);
    }
}
