import java.lang.reflect.InvocationTargetException;
import java.util.Arrays;

/** What the tests share: answers held against what is due, and texts fed letter by letter. */
final class Checks {
    static final int NONE = -1000000, BAD = -1000001, STATE = -1000002, FULL = -1000003;
    static final int NULL = -1000011, PLACE = -1000012, KIND = -1000013, SIZE = -1000014, STORE = -1000015;
    static final int LEAST = Integer.MIN_VALUE, MOST = Integer.MAX_VALUE;
    private int wrong = 0;
    private int held = 0;

    void due(String call, long got, long want) {
        held++;
        if (got != want) {
            wrong++;
            System.out.println(call + " answered " + got + ", due is " + want);
        }
    }

    void holds(String what, boolean so) {
        held++;
        if (!so) {
            wrong++;
            System.out.println(what + ": it does not hold");
        }
    }

    /** Ends the test: exit code 1 if an answer was wrong. */
    void end() {
        System.out.println(held + " answers, " + wrong + " wrong");
        if (wrong != 0 || held == 0) {
            System.exit(1);
        }
    }

    static void feed(NextNames x, String text) {
        for (int i = 0; i < text.length(); i++) {
            x.feed(text.charAt(i));
        }
    }

    static int read(NextNames x, String text) {
        feed(x, text);
        return x.land();
    }

    static NextNames land(String text) {
        NextNames x = new NextNames();
        if (read(x, text) < 1) {
            throw new IllegalStateException("this text is no land: " + text);
        }
        return x;
    }

    /** A call by its name, of the class or of what is held against it. */
    static long answer(Object of, String name, int... args) {
        Class<?>[] types = new Class<?>[args.length];
        Object[] values = new Object[args.length];
        for (int i = 0; i < args.length; i++) {
            types[i] = int.class;
            values[i] = args[i];
        }
        try {
            return ((Number) of.getClass().getMethod(name, types).invoke(of, values)).longValue();
        } catch (InvocationTargetException e) {
            throw new IllegalStateException(called(name, args) + " threw", e.getCause());
        } catch (ReflectiveOperationException e) {
            throw new IllegalStateException("there is no " + called(name, args), e);
        }
    }

    static String called(String name, int... args) {
        String told = Arrays.toString(args);
        return name + "(" + told.substring(1, told.length() - 1) + ")";
    }

    /** A LAND in which steps() tells an ITEM: a walker at 0 is at STEP then, but dead by 9. */
    static final String GLASS = "n16,0;t9,0;w0,0,0;";

    /** What an ITEM is, of -1 and 0 to 8 (LEAST: another); the LAND must be GLASS. */
    static int item(NextNames x, int row, int i) {
        int bits = x.steps(0, row, i, 1);
        for (int step = 0; step <= 9; step++) {
            if (bits == 1 << step) {
                return step == 9 ? -1 : step;
            }
        }
        return LEAST;
    }
}
