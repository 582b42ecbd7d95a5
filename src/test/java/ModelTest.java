import java.lang.reflect.Method;
import java.lang.reflect.Modifier;
import java.util.ArrayList;
import java.util.Comparator;
import java.util.List;
import java.util.Random;
import java.util.Set;

/**
 * Every promise: runs of drawn calls, each answer held against the Model's, and all that can be asked behind them. A run
 * takes 512 calls, no more: what a later one answers is free.
 */
public final class ModelTest {
    private static final int RUNS = 1200, CALLS = 512, LAST_CALLS = 8 + 7 * 6 + 5 * 4 + 1;
    private static final int[] WILD = {
        Integer.MIN_VALUE, Integer.MIN_VALUE + 1, -1000000, -2, -1, 0, 1, 2, 12, 13, 40, 41, 60, 61, 100, 255, 256, 999,
        1000000, Integer.MAX_VALUE - 1, Integer.MAX_VALUE
    };
    private static final Set<String> TOLD_BY_STATUS = Set.of("row", "set", "copy", "drop", "called", "who", "steps", "as");
    private static final Checks C = new Checks();
    private static final List<Method> METHODS = methods();
    private final Random random;
    private final NextNames real = new NextNames();
    private final Model model = new Model();
    private final List<String> told = new ArrayList<>();
    private int callsLeft = CALLS - LAST_CALLS;
    private boolean apart = false;

    private ModelTest(long seed) {
        random = new Random(seed);
    }

    public static void main(String[] args) {
        for (int run = 0; run < RUNS; run++) {
            new ModelTest(run).run();
        }
        C.end();
    }

    private static List<Method> methods() {
        List<Method> all = new ArrayList<>();
        for (Method m : NextNames.class.getDeclaredMethods()) {
            if (Modifier.isPublic(m.getModifiers())) {
                all.add(m);
            }
        }
        all.sort(Comparator.comparing(Method::getName));
        return all;
    }

    private void run() {
        tellLand();
        while (callsLeft > 0 && !apart) {
            if (random.nextInt(60) == 0) {
                tellLand();
            } else if (random.nextInt(25) == 0) {
                tellRow();
            } else {
                both(METHODS.get(random.nextInt(METHODS.size())));
            }
        }
        callsLeft = LAST_CALLS;
        askAll();
        C.due("calls of the run that are left", callsLeft, 0);
    }

    private int number(int high) {
        return random.nextInt(high + 1);
    }

    private String landText() {
        int places = 2 + number(14);
        int things = 1 + number(random.nextInt(9) == 0 ? 5 : 4);
        int people = 1 + number(random.nextInt(9) == 0 ? 7 : 6);
        StringBuilder text = new StringBuilder("n" + places + "," + number(9) + ";");
        for (int t = 0; t < things; t++) {
            text.append("t" + number(places - 1) + "," + number(random.nextBoolean() ? 2 : 15) + ";");
        }
        for (int p = 0; p < people; p++) {
            text.append("wkbsr".charAt(number(4)));
            text.append(number(things - 1) + "," + number(places - 1) + "," + number(random.nextBoolean() ? 2 : 9) + ";");
        }
        if (random.nextInt(4) == 0) {
            String letters = "ntwkbsrx,;0123456789 A";
            int at = random.nextInt(text.length());
            char c = random.nextInt(9) == 0 ? (char) random.nextInt(256) : letters.charAt(random.nextInt(letters.length()));
            if (random.nextBoolean()) {
                text.setCharAt(at, c);
            } else if (random.nextBoolean()) {
                text.insert(at, c);
            } else {
                text.setLength(at);
            }
        }
        return text.toString();
    }

    private void tellLand() {
        String text = landText();
        for (int i = 0; i < text.length(); i++) {
            both("feed", text.charAt(i));
        }
        both("land");
    }

    /** A row that tells truly where one will be, were he called, or of a kind, or of a step, that he may not be of. */
    private void tellRow() {
        int people = model.count(2);
        if (people == 0) {
            return;
        }
        int person = random.nextInt(people);
        int row = random.nextInt(8);
        int n = 1 + number(11);
        both("row", row, number(2), n);
        if (random.nextBoolean()) {
            both("call", person, random.nextInt(model.count(1)));
        }
        for (int i = 0; i < n; i++) {
            int place = model.ahead(person, i + 1);
            both("set", row, i, place == Checks.NONE ? -1 : place);
        }
        if (random.nextBoolean()) {
            both("undo");
        }
        both("called", person, row, 0, n);
        both("who", person, row, 0, n);
        both("steps", person, row, 0, n);
    }

    private void both(Method method) {
        int[] args = new int[method.getParameterCount()];
        int most = Math.max(model.count(5), 3);
        for (int i = 0; i < args.length; i++) {
            int way = random.nextInt(40);
            args[i] = way == 0 ? WILD[random.nextInt(WILD.length)] : way < 6 ? number(60) : way < 20 ? number(most) : number(6);
        }
        if (method.getName().equals("drawn") && args[1] < 61 && random.nextBoolean()) {
            args[1] = 1 + random.nextInt(999999);
        }
        String name = method.getName();
        boolean rare = name.equals("land") || name.equals("feed") || name.equals("days");
        if (!rare || random.nextInt(4) == 0) {
            both(name, args);
        }
    }

    private void both(String name, int... args) {
        hold(name, args);
        if (TOLD_BY_STATUS.contains(name) || random.nextInt(8) == 0) {
            hold("status");
        }
    }

    private void hold(String name, int... args) {
        if (callsLeft == 0) {
            return;
        }
        callsLeft--;
        String call = Checks.called(name, args);
        told.add(call);
        long got = Checks.answer(real, name, args);
        long want = Checks.answer(model, name, args);
        C.due(call, got, want);
        if (got != want && !apart) {
            apart = true;
            System.out.println("   behind " + told);
        }
    }

    private void askAll() {
        for (int what = 0; what < 8; what++) {
            hold("count", what);
        }
        for (int p = 0; p < 7; p++) {
            for (int what = 0; what < 6; what++) {
                hold("person", p, what);
            }
        }
        for (int t = 0; t < 5; t++) {
            for (int what = 0; what < 4; what++) {
                hold("thing", t, what);
            }
        }
        hold("status");
    }
}
