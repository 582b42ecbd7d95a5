/** Promises 34 and 35. */
public final class ImagesTest {
    private static final Checks C = new Checks();

    public static void main(String[] args) {
        NextNames x = new NextNames();
        C.due("image: BAD ahead of STATE", x.image(2), Checks.BAD);
        C.due("image -1", x.image(-1), Checks.BAD);
        C.due("image: no land", x.image(0), Checks.STATE);
        C.due("restore 2", x.restore(2), Checks.BAD);
        C.due("restore -1", x.restore(-1), Checks.BAD);
        C.due("restore: none", x.restore(0), Checks.STATE);
        Checks.read(x, "n6,2;t0,1;t4,0;w0,2,0;w1,5,2;");
        C.due("image 1", x.image(1), 1);
        C.due("restore: none of this", x.restore(0), Checks.STATE);
        x.nail(1, 1);
        x.keepIn(1, 5);
        x.move(1, 3);
        x.days(2);
        x.call(1, 0);
        C.due("image 0", x.image(0), 1);
        C.due("an image is no act, and leaves them", x.count(6), 6);
        Checks.read(x, "n3,0;t1,1;s0,2,0;");
        x.days(1);
        C.due("restore 0", x.restore(0), 1);
        C.due("places", x.count(5), 6);
        C.due("people", x.count(2), 2);
        C.due("day", x.count(3), 2);
        C.due("who lives", x.count(4), 2);
        C.due("died on", x.person(0, 5), 1);
        C.due("kept in", x.person(1, 4), 3);
        C.due("name", x.person(1, 0), 0);
        C.due("place", x.person(1, 1), 3);
        C.due("kind", x.kind(1), 1);
        C.due("step", x.person(1, 2), 2);
        C.due("nailed", x.thing(1, 2), 1);
        C.due("thing", x.thing(0, 0), 2);
        C.due("nothing to undo", x.undo(), Checks.STATE);
        x.carry(0, 5);
        C.due("restore 1", x.restore(1), 1);
        C.due("no act", x.count(6), 0);
        C.due("thing", x.thing(0, 0), 0);
        C.due("day", x.count(3), 0);
        C.due("who lives", x.count(4), 3);
        C.due("restore 0 again", x.restore(0), 1);
        C.due("as it was kept", x.thing(0, 0), 2);
        C.end();
    }
}
