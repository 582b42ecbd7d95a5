/** What the tests share: answers held against what is due, and texts fed letter by letter. */
final class Checks {
    static final int NONE = -1000000, BAD = -1000001, STATE = -1000002, FULL = -1000003;
    static final int NULL = -1000011, PLACE = -1000012, KIND = -1000013, SIZE = -1000014, STORE = -1000015;
    private int wrong = 0;
    private int held = 0;

    void due(String call, long got, long want) {
        held++;
        if (got != want) {
            wrong++;
            System.out.println(call + " answered " + got + ", due is " + want);
        }
    }

    /** Ends the test: exit code 1 if an answer was wrong. */
    void end() {
        System.out.println(held + " answers, " + wrong + " wrong");
        if (wrong != 0 || held == 0) {
            System.exit(1);
        }
    }

    static void feed(NextNames x, String text) {
        for (int i = 0; i < text.length(); i++) {
            x.feed(text.charAt(i));
        }
    }

    static int read(NextNames x, String text) {
        feed(x, text);
        return x.land();
    }

    static NextNames land(String text) {
        NextNames x = new NextNames();
        if (read(x, text) < 1) {
            throw new IllegalStateException("this text is no land: " + text);
        }
        return x;
    }
}
