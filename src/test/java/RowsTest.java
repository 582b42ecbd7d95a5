/** Promises 2 to 5, and of 40 and 41 what bears on ROWS. */
public final class RowsTest {
    private static final Checks C = new Checks();

    public static void main(String[] args) {
        row();
        set();
        copy();
        drop();
        status();
        C.end();
    }

    private static void row() {
        NextNames x = new NextNames();
        C.due("row 0 of bytes", x.row(0, 0, 3), 3);
        C.due("row 7 of ints, 40 items", x.row(7, 2, 40), 40);
        C.due("row of none", x.row(3, 1, 0), 0);
        C.due("rows there are", x.count(0), 3);
        C.due("row -1", x.row(-1, 0, 1), Checks.BAD);
        C.due("row 8", x.row(8, 0, 1), Checks.BAD);
        C.due("lane -1", x.row(0, -1, 1), Checks.BAD);
        C.due("lane 3", x.row(0, 3, 1), Checks.BAD);
        C.due("41 items", x.row(0, 0, 41), Checks.BAD);
        C.due("fewer than none", x.row(0, 0, -1), Checks.SIZE);
        C.due("least int", x.row(0, 0, Integer.MIN_VALUE), Checks.SIZE);
        C.due("BAD ahead of SIZE", x.row(0, 3, -1), Checks.BAD);
        C.due("what is found leaves the row", x.set(0, 2, 9), 9);
        x.set(0, 0, 9);
        x.row(0, 1, 3);
        C.due("a new row is 0", isItem(x, 0, 0, 0) ? 1 : 0, 1);
        C.due("a new row is 0", isItem(x, 0, 2, 0) ? 1 : 0, 1);
        C.due("a new row has its own lane", x.set(0, 0, 40000), 40000 - 65536);
    }

    /** Whether an item is a value (0 to 14): one who stands still there is told so by the row. */
    private static boolean isItem(NextNames x, int row, int i, int value) {
        Checks.read(x, "n16,0;t15,0;w0,0,0;");
        x.move(0, value);
        return (x.steps(0, row, i, 1) & 1) == 1;
    }

    private static void set() {
        NextNames x = new NextNames();
        C.due("missing", x.set(0, 0, 1), Checks.NULL);
        x.row(0, 0, 2);
        x.row(1, 1, 2);
        x.row(2, 2, 2);
        C.due("byte", x.set(0, 0, 127), 127);
        C.due("byte 128", x.set(0, 0, 128), -128);
        C.due("byte 511", x.set(0, 1, 511), -1);
        C.due("byte of least int", x.set(0, 1, Integer.MIN_VALUE), 0);
        C.due("short", x.set(1, 0, 32768), -32768);
        C.due("short 65535", x.set(1, 1, 65535), -1);
        C.due("int", x.set(2, 0, Integer.MIN_VALUE), Integer.MIN_VALUE);
        C.due("int", x.set(2, 1, 2147483647), 2147483647);
        C.due("row -1", x.set(-1, 0, 0), Checks.BAD);
        C.due("row 8", x.set(8, 0, 0), Checks.BAD);
        C.due("place -1", x.set(0, -1, 0), Checks.PLACE);
        C.due("place 2 of 2", x.set(0, 2, 0), Checks.PLACE);
        C.due("greatest place", x.set(0, Integer.MAX_VALUE, 0), Checks.PLACE);
        C.due("missing ahead of place", x.set(5, -1, 0), Checks.NULL);
        x.row(3, 0, 0);
        C.due("a row of none has no place", x.set(3, 0, 0), Checks.PLACE);
    }

    private static void copy() {
        NextNames x = new NextNames();
        x.row(0, 0, 4);
        x.row(1, 0, 3);
        x.row(2, 1, 4);
        C.due("row -1", x.copy(-1, 0, 0, 0, 0), Checks.BAD);
        C.due("row 8", x.copy(0, 0, 8, 0, 0), Checks.BAD);
        C.due("first missing", x.copy(5, 0, 0, 0, 0), Checks.NULL);
        C.due("second missing", x.copy(0, 0, 5, 0, 0), Checks.NULL);
        C.due("missing ahead of lanes", x.copy(2, 0, 5, 0, 0), Checks.NULL);
        C.due("two lanes", x.copy(0, 0, 2, 0, 1), Checks.STORE);
        C.due("lanes ahead of place", x.copy(0, -1, 2, 0, 1), Checks.STORE);
        C.due("i below 0", x.copy(0, -1, 1, 0, 1), Checks.PLACE);
        C.due("j below 0", x.copy(0, 0, 1, -1, 1), Checks.PLACE);
        C.due("n below 0", x.copy(0, 0, 1, 0, -1), Checks.PLACE);
        C.due("beyond the first's end", x.copy(0, 3, 1, 0, 2), Checks.PLACE);
        C.due("beyond the second's end", x.copy(0, 0, 1, 0, 4), Checks.PLACE);
        C.due("sums that run over", x.copy(0, Integer.MAX_VALUE, 1, 0, Integer.MAX_VALUE), Checks.PLACE);
        C.due("none at the ends", x.copy(0, 4, 1, 3, 0), 0);
        C.due("none behind an end", x.copy(0, 5, 1, 0, 0), Checks.PLACE);
        C.due("all", x.copy(1, 0, 0, 1, 3), 3);
        overlapping();
    }

    /** A walker of step 1 from place 3 on is at 4, 5, 6: the row tells so only if the copy took items as they were. */
    private static void overlapping() {
        NextNames x = Checks.land("n9,0;t0,0;w0,3,1;");
        x.row(0, 0, 4);
        x.set(0, 0, 4);
        x.set(0, 1, 5);
        x.set(0, 2, 6);
        C.due("onto itself, later", x.copy(0, 0, 0, 1, 3), 3);
        C.due("items as they were", x.steps(0, 0, 1, 3), 2);
        C.due("onto itself, earlier", x.copy(0, 1, 0, 0, 3), 3);
        C.due("items as they were", x.steps(0, 0, 0, 3), 2);
    }

    private static void drop() {
        NextNames x = new NextNames();
        C.due("missing", x.drop(0), Checks.NULL);
        x.row(0, 0, 3);
        x.row(1, 0, 0);
        C.due("row 8", x.drop(8), Checks.BAD);
        C.due("row -1", x.drop(-1), Checks.BAD);
        C.due("three", x.drop(0), 3);
        C.due("none", x.drop(1), 0);
        C.due("gone", x.drop(0), Checks.NULL);
        C.due("no rows", x.count(0), 0);
    }

    private static void status() {
        NextNames x = new NextNames();
        C.due("at first", x.status(), 0);
        x.set(0, 0, 0);
        C.due("NULL", x.status(), 1);
        x.row(9, 0, 0);
        C.due("a BAD call leaves it", x.status(), 1);
        x.row(0, 0, 1);
        C.due("none", x.status(), 0);
        x.set(0, 1, 0);
        C.due("PLACE", x.status(), 2);
        x.set(0, 0, 0);
        C.due("none", x.status(), 0);
        x.row(0, 0, -1);
        C.due("SIZE", x.status(), 4);
        x.row(1, 1, 1);
        x.copy(0, 0, 1, 0, 1);
        C.due("STORE", x.status(), 5);
        x.days(1);
        x.undo();
        x.feed(300);
        x.count(0);
        C.due("others leave it", x.status(), 5);
        x.drop(1);
        C.due("none", x.status(), 0);
        tellingStatus();
    }

    private static void tellingStatus() {
        NextNames x = Checks.land("n9,0;t0,0;w0,3,1;s0,1,0;");
        x.called(0, 0, 0, 1);
        C.due("called: NULL", x.status(), 1);
        x.row(0, 2, 2);
        x.called(0, 0, 1, 2);
        C.due("called: PLACE", x.status(), 2);
        x.who(0, 0, 0, 13);
        C.due("BAD leaves it", x.status(), 2);
        x.who(0, 0, 0, 2);
        C.due("who: none", x.status(), 0);
        x.as(0, 4);
        C.due("as: KIND", x.status(), 3);
        x.as(2, 0);
        C.due("as: BAD leaves it", x.status(), 3);
        x.as(0, 1);
        C.due("as: none", x.status(), 0);
        x.steps(0, 1, 0, 1);
        C.due("steps: NULL", x.status(), 1);
        x.steps(0, 0, 0, 1);
        C.due("steps: none", x.status(), 0);
    }
}
