import java.util.ArrayDeque;
import java.util.ArrayList;
import java.util.Deque;
import java.util.List;
import java.util.function.Consumer;
import java.util.function.IntPredicate;
import java.util.regex.Matcher;
import java.util.regex.Pattern;

/**
 * The document told a second time, as plainly as can be: whole lands are copied and go on day by day, and what is
 * searched for is tried in every way there is. It shares no code with the class, and is held against it by ModelTest.
 */
public final class Model {
    static final int NONE = -1000000, BAD = -1000001, STATE = -1000002, FULL = -1000003;

    static final class Thing {
        int place;
        int goes;
        boolean nailed;
    }

    static final class Person {
        char sort;
        int name;
        int place;
        int step;
        int kept;
        int died = NONE;

        boolean lives() {
            return died == NONE;
        }
    }

    static final class World {
        int places;
        int late;
        int day;
        List<Thing> things = new ArrayList<>();
        List<Person> people = new ArrayList<>();

        World twin() {
            World w = new World();
            w.places = places;
            w.late = late;
            w.day = day;
            for (Thing t : things) {
                Thing u = new Thing();
                u.place = t.place;
                u.goes = t.goes;
                u.nailed = t.nailed;
                w.things.add(u);
            }
            for (Person p : people) {
                Person q = new Person();
                q.sort = p.sort;
                q.name = p.name;
                q.place = p.place;
                q.step = p.step;
                q.kept = p.kept;
                q.died = p.died;
                w.people.add(q);
            }
            return w;
        }

        int pass(IntPredicate thingStands) {
            for (int t = 0; t < things.size(); t++) {
                Thing thing = things.get(t);
                if (!thing.nailed && !thingStands.test(t)) {
                    thing.place = (thing.place + thing.goes) % places;
                }
            }
            for (Person p : people) {
                if (p.lives() && p.kept == 0) {
                    walk(p);
                }
            }
            int dead = 0;
            for (Person p : people) {
                boolean spared = p.sort == 'r' && day < late;
                if (p.lives() && p.place == things.get(p.name).place && !spared) {
                    p.died = day;
                    dead++;
                }
            }
            day++;
            for (Person p : people) {
                if (p.kept > 0) {
                    p.kept--;
                }
            }
            return dead;
        }

        void walk(Person p) {
            int thing = things.get(p.name).place;
            int ahead = (p.place + p.step) % places;
            boolean behindHim = thing == (p.place + places - 1) % places;
            if (p.sort == 'w' || p.sort == 'k' && ahead != thing) {
                p.place = ahead;
            } else if (p.sort == 'b') {
                p.place = (ahead + p.step) % places;
            } else if (p.sort == 's' && behindHim) {
                p.place = (p.place + 1) % places;
            } else if (p.sort == 'r' && behindHim) {
                p.place = (p.place + late) % places;
            }
        }

        int pass() {
            return pass(t -> false);
        }

        int living() {
            int bits = 0;
            for (int p = 0; p < people.size(); p++) {
                bits |= people.get(p).lives() ? 1 << p : 0;
            }
            return bits;
        }

        /** Behind how many days one dies, 61 if not in 60; this world goes on. */
        int dies(int person) {
            for (int d = 0; d <= 60; d++) {
                if (!people.get(person).lives()) {
                    return d;
                }
                pass();
            }
            return 61;
        }
    }

    private final int[][] rows = new int[8][];
    private final int[] lanes = new int[8];
    private final StringBuilder tape = new StringBuilder();
    private World world = null;
    private final World[] images = new World[2];
    private final Deque<World> acts = new ArrayDeque<>();
    private final List<Integer> trace = new ArrayList<>();
    private int fault = 0;
    private int status = 0;

    private int found(int number) {
        status = number;
        return -1000010 - number;
    }

    private int sound(int answer) {
        status = 0;
        return answer;
    }

    private static boolean in(int v, int low, int high) {
        return low <= v && v <= high;
    }

    private boolean noPerson(int p) {
        return world == null || !in(p, 0, world.people.size() - 1);
    }

    private boolean noThing(int t) {
        return world == null || !in(t, 0, world.things.size() - 1);
    }

    private boolean noPlace(int place) {
        return world == null || !in(place, 0, world.places - 1);
    }

    public int row(int row, int lane, int n) {
        if (!in(row, 0, 7) || !in(lane, 0, 2) || n > 40) {
            return BAD;
        }
        if (n < 0) {
            return found(4);
        }
        rows[row] = new int[n];
        lanes[row] = lane;
        return sound(n);
    }

    public int set(int row, int i, int v) {
        if (!in(row, 0, 7)) {
            return BAD;
        }
        if (rows[row] == null) {
            return found(1);
        }
        if (!in(i, 0, rows[row].length - 1)) {
            return found(2);
        }
        int bits = 8 << lanes[row];
        long low = v & (1L << bits) - 1;
        rows[row][i] = (int) (low >= 1L << bits - 1 ? low - (1L << bits) : low);
        return sound(rows[row][i]);
    }

    public int copy(int a, int i, int b, int j, int n) {
        if (!in(a, 0, 7) || !in(b, 0, 7)) {
            return BAD;
        }
        if (rows[a] == null || rows[b] == null) {
            return found(1);
        }
        if (lanes[a] != lanes[b]) {
            return found(5);
        }
        if (i < 0 || j < 0 || n < 0 || (long) i + n > rows[a].length || (long) j + n > rows[b].length) {
            return found(2);
        }
        int[] was = rows[a].clone();
        for (int k = 0; k < n; k++) {
            rows[b][j + k] = was[i + k];
        }
        return sound(n);
    }

    public int drop(int row) {
        if (!in(row, 0, 7)) {
            return BAD;
        }
        if (rows[row] == null) {
            return found(1);
        }
        int had = rows[row].length;
        rows[row] = null;
        return sound(had);
    }

    public int feed(int letter) {
        if (!in(letter, 0, 255)) {
            return BAD;
        }
        if (tape.length() == 100) {
            return FULL;
        }
        tape.append((char) letter);
        return tape.length();
    }

    /** The text against the grammar as a machine of states: each token is taken by the state, or is the fault. */
    public int land() {
        String text = tape.toString();
        tape.setLength(0);
        List<String> tokens = new ArrayList<>();
        List<Integer> starts = new ArrayList<>();
        Matcher m = Pattern.compile("[0-9]+|[a-z]|[,;]|.", Pattern.DOTALL).matcher(text);
        while (m.find()) {
            tokens.add(m.group());
            starts.add(m.start());
        }
        tokens.add("");
        starts.add(text.length());
        World w = new World();
        String state = "n";
        int part = 0;
        for (int k = 0; k < tokens.size(); k++) {
            String token = tokens.get(k);
            int wrong = 0;
            char want = state.charAt(part);
            boolean opens = part == 0;
            if (opens && !state.equals("n")) {
                boolean thing = token.equals("t") && w.people.isEmpty();
                boolean person = token.matches("[wkbsr]") && !w.things.isEmpty();
                if (token.isEmpty() && !w.people.isEmpty()) {
                    world = w;
                    acts.clear();
                    return w.people.size();
                }
                if (!thing && !person) {
                    wrong = 1;
                } else if (thing && w.things.size() == 5 || person && w.people.size() == 7) {
                    wrong = 3;
                } else if (thing) {
                    state = "t#,#;";
                    w.things.add(new Thing());
                } else {
                    state = "p#,#,#;";
                    Person p = new Person();
                    p.sort = token.charAt(0);
                    w.people.add(p);
                }
            } else if (opens) {
                wrong = token.equals("n") ? 0 : 1;
                state = "n#,#;";
            } else if (want == '#') {
                wrong = !token.matches("[0-9]{1,2}") ? 1 : take(w, state.charAt(0), part, Integer.parseInt(token)) ? 0 : 2;
            } else {
                wrong = token.equals(String.valueOf(want)) ? 0 : 1;
            }
            if (wrong != 0) {
                fault = wrong;
                return -1000100 - starts.get(k);
            }
            part++;
            if (part == state.length()) {
                part = 0;
                state = "?";
            }
        }
        throw new IllegalStateException("the end stands nowhere else");
    }

    private static boolean take(World w, char of, int part, int number) {
        if (of == 'n') {
            if (part == 1) {
                w.places = number;
                return in(number, 2, 16);
            }
            w.late = number;
            return in(number, 0, 9);
        }
        if (of == 't') {
            Thing t = w.things.get(w.things.size() - 1);
            if (part == 1) {
                t.place = number;
                return number < w.places;
            }
            t.goes = number;
            return number <= 15;
        }
        Person p = w.people.get(w.people.size() - 1);
        if (part == 1) {
            p.name = number;
            return number < w.things.size();
        }
        if (part == 3) {
            p.place = number;
            return number < w.places;
        }
        p.step = number;
        return number <= 9;
    }

    public int fault() {
        return fault;
    }

    public int undo() {
        if (acts.isEmpty()) {
            return STATE;
        }
        world = acts.removeLast();
        return acts.size();
    }

    private void act() {
        acts.addLast(world.twin());
        if (acts.size() > 24) {
            acts.removeFirst();
        }
    }

    public int days(int n) {
        if (world == null) {
            return STATE;
        }
        if (!in(n, 1, 24)) {
            return BAD;
        }
        if (world.day + n > 999) {
            return FULL;
        }
        int dead = 0;
        for (int d = 0; d < n; d++) {
            act();
            dead += world.pass();
        }
        return dead;
    }

    public int carry(int thing, int place) {
        if (noThing(thing) || noPlace(place)) {
            return BAD;
        }
        act();
        int was = world.things.get(thing).place;
        world.things.get(thing).place = place;
        return was;
    }

    public int nail(int thing, int on) {
        if (noThing(thing) || !in(on, 0, 1)) {
            return BAD;
        }
        if (world.things.get(thing).nailed == (on == 1)) {
            return STATE;
        }
        act();
        world.things.get(thing).nailed = on == 1;
        int bits = 0;
        for (int t = 0; t < world.things.size(); t++) {
            bits |= world.things.get(t).nailed ? 1 << t : 0;
        }
        return bits;
    }

    public int keepIn(int person, int n) {
        if (noPerson(person) || !in(n, 0, 60)) {
            return BAD;
        }
        if (!world.people.get(person).lives()) {
            return STATE;
        }
        act();
        int was = world.people.get(person).kept;
        world.people.get(person).kept = n;
        return was;
    }

    public int call(int person, int thing) {
        if (noPerson(person) || noThing(thing)) {
            return BAD;
        }
        if (!world.people.get(person).lives()) {
            return STATE;
        }
        act();
        int was = world.people.get(person).name;
        world.people.get(person).name = thing;
        return was;
    }

    public int move(int person, int place) {
        if (noPerson(person) || noPlace(place)) {
            return BAD;
        }
        if (!world.people.get(person).lives()) {
            return STATE;
        }
        act();
        int was = world.people.get(person).place;
        world.people.get(person).place = place;
        return was;
    }

    public int person(int person, int what) {
        if (noPerson(person) || !in(what, 0, 5)) {
            return BAD;
        }
        Person p = world.people.get(person);
        int[] told = {p.name, p.place, p.step, p.lives() ? 1 : 0, p.kept, p.died};
        return told[what];
    }

    public int thing(int thing, int what) {
        if (noThing(thing) || !in(what, 0, 3)) {
            return BAD;
        }
        Thing t = world.things.get(thing);
        int bits = 0;
        for (int p = 0; p < world.people.size(); p++) {
            bits |= world.people.get(p).name == thing ? 1 << p : 0;
        }
        int[] told = {t.place, t.goes, t.nailed ? 1 : 0, bits};
        return told[what];
    }

    private World later(int n) {
        World w = world.twin();
        for (int d = 0; d < n; d++) {
            w.pass();
        }
        return w;
    }

    public int ahead(int person, int n) {
        if (noPerson(person) || !in(n, 0, 60)) {
            return BAD;
        }
        Person p = later(n).people.get(person);
        return p.lives() ? p.place : NONE;
    }

    public int liveAhead(int n) {
        if (world == null) {
            return STATE;
        }
        return in(n, 0, 60) ? later(n).living() : BAD;
    }

    public int dies(int person) {
        if (noPerson(person)) {
            return BAD;
        }
        int d = world.twin().dies(person);
        return d > 60 ? NONE : d;
    }

    public int keepDays(int person, int n, int m, int what) {
        if (noPerson(person) || !in(n, 1, 12) || !in(m, 0, 12) || !in(what, 0, 1)) {
            return BAD;
        }
        if (!world.people.get(person).lives()) {
            return STATE;
        }
        int best = -1;
        int bestBits = 0;
        for (int few = 0; few <= Math.min(n, m); few++) {
            for (int bits = 0; bits < 1 << n; bits++) {
                if (Integer.bitCount(bits) == few) {
                    int d = diesKept(person, bits);
                    if (d > best) {
                        best = d;
                        bestBits = bits;
                    }
                }
            }
        }
        return what == 1 ? bestBits : best > 60 ? NONE : best;
    }

    private int diesKept(int person, int bits) {
        World w = alone(person);
        Person p = w.people.get(0);
        for (int d = 0; d < 60; d++) {
            p.kept = bits >> d & (d < 12 ? 1 : 0);
            w.pass();
            if (!p.lives()) {
                return d + 1;
            }
        }
        return 61;
    }

    /** The land with one person in it, lest the many tries take long. */
    private World alone(int person) {
        World w = world.twin();
        Person p = w.people.get(person);
        w.people.clear();
        w.people.add(p);
        return w;
    }

    public int nails(int person, int n, int what) {
        if (noPerson(person) || !in(n, 1, 60) || !in(what, 0, 1)) {
            return BAD;
        }
        if (!world.people.get(person).lives()) {
            return STATE;
        }
        int best = NONE;
        int bestBits = NONE;
        for (int bits = (1 << world.things.size()) - 1; bits >= 0; bits--) {
            World w = alone(person);
            boolean more = true;
            for (int t = 0; t < w.things.size(); t++) {
                if ((bits >> t & 1) == 1) {
                    more &= !w.things.get(t).nailed;
                    w.things.get(t).nailed = true;
                }
            }
            if (more && w.dies(0) > n && (best == NONE || Integer.bitCount(bits) <= best)) {
                best = Integer.bitCount(bits);
                bestBits = bits;
            }
        }
        return what == 0 ? best : bestBits;
    }

    public int names(int person, int n) {
        if (noPerson(person) || !in(n, 1, 60)) {
            return BAD;
        }
        if (!world.people.get(person).lives()) {
            return STATE;
        }
        int bits = 0;
        for (int t = 0; t < world.things.size(); t++) {
            World w = world.twin();
            w.people.get(person).name = t;
            bits |= w.dies(person) > n ? 1 << t : 0;
        }
        return bits;
    }

    public int safest(int person) {
        if (noPerson(person)) {
            return BAD;
        }
        if (!world.people.get(person).lives()) {
            return STATE;
        }
        int best = 0;
        int bestPlace = 0;
        for (int place = world.places - 1; place >= 0; place--) {
            World w = world.twin();
            w.people.get(person).place = place;
            int d = w.dies(person);
            if (d >= best) {
                best = d;
                bestPlace = place;
            }
        }
        return bestPlace;
    }

    public int meet(int person, int other) {
        if (noPerson(person) || noPerson(other) || person == other) {
            return BAD;
        }
        for (int n = 0; n <= 60; n++) {
            World w = later(n);
            Person p = w.people.get(person);
            Person q = w.people.get(other);
            if (p.lives() && q.lives() && p.place == q.place) {
                return n;
            }
        }
        return NONE;
    }

    public int fatal(int n) {
        if (world == null) {
            return STATE;
        }
        if (!in(n, 1, 60)) {
            return BAD;
        }
        int bits = 0;
        World w = later(n);
        for (Person p : w.people) {
            bits |= !p.lives() && p.died >= world.day ? 1 << p.name : 0;
        }
        return bits;
    }

    private int tell(int person, int row, int i, int n, List<Consumer<Person>> ways) {
        if (noPerson(person) || !in(row, 0, 7) || !in(n, 1, 12)) {
            return BAD;
        }
        if (rows[row] == null) {
            return found(1);
        }
        if (i < 0 || (long) i + n > rows[row].length) {
            return found(2);
        }
        int bits = 0;
        for (int k = 0; k < ways.size(); k++) {
            World w = world.twin();
            Person p = w.people.get(person);
            ways.get(k).accept(p);
            boolean fits = true;
            for (int d = 0; d < n; d++) {
                w.pass();
                fits &= rows[row][i + d] == (p.lives() ? p.place : -1);
            }
            bits |= fits ? 1 << k : 0;
        }
        return sound(bits);
    }

    public int called(int person, int row, int i, int n) {
        List<Consumer<Person>> ways = new ArrayList<>();
        for (int t = 0; world != null && t < world.things.size(); t++) {
            int name = t;
            ways.add(p -> p.name = name);
        }
        return tell(person, row, i, n, ways);
    }

    public int who(int person, int row, int i, int n) {
        List<Consumer<Person>> ways = new ArrayList<>();
        for (char c : "wkbsr".toCharArray()) {
            ways.add(p -> p.sort = c);
        }
        int bits = tell(person, row, i, n, ways);
        return bits < 0 ? bits : bits << 1;
    }

    public int steps(int person, int row, int i, int n) {
        List<Consumer<Person>> ways = new ArrayList<>();
        for (int s = 0; s <= 9; s++) {
            int step = s;
            ways.add(p -> p.step = step);
        }
        return tell(person, row, i, n, ways);
    }

    public int namesakes(int what) {
        if (world == null) {
            return STATE;
        }
        if (!in(what, 0, 1)) {
            return BAD;
        }
        List<Integer> pairs = new ArrayList<>();
        for (int pair = 0; pair < 70; pair++) {
            int p = pair / 10;
            int q = pair % 10;
            if (p < q && q < world.people.size()) {
                Person one = world.people.get(p);
                Person two = world.people.get(q);
                if (one.lives() && two.lives() && one.name == two.name) {
                    pairs.add(pair);
                }
            }
        }
        return what == 0 ? pairs.size() : pairs.isEmpty() ? NONE : pairs.get(0);
    }

    /** Over every way in which things stand still or go, with the weights of all of them. */
    public long still(int person, int p, int what) {
        if (noPerson(person) || !in(p, 0, 10) || !in(what, 0, 1)) {
            return BAD;
        }
        long above = 0;
        long below = 0;
        for (int bits = 0; bits < 1 << world.things.size(); bits++) {
            World w = world.twin();
            int stands = bits;
            w.pass(t -> (stands >> t & 1) == 1);
            long weight = 1;
            for (int t = 0; t < world.things.size(); t++) {
                weight *= (bits >> t & 1) == 1 ? p : 10 - p;
            }
            below += weight;
            above += w.people.get(person).lives() ? weight : 0;
        }
        long a = above;
        long b = below;
        while (b != 0) {
            long rest = a % b;
            a = b;
            b = rest;
        }
        return (what == 0 ? above : below) / a;
    }

    public int life() {
        if (world == null) {
            return STATE;
        }
        int sum = 0;
        for (int p = 0; p < world.people.size(); p++) {
            sum += Math.min(60, world.twin().dies(p));
        }
        return sum;
    }

    public int drawn(int n, int seed, int what) {
        if (world == null) {
            return STATE;
        }
        if (!in(n, 0, 60) || !in(seed, 1, 999999) || !in(what, 0, 1)) {
            return BAD;
        }
        World w = world.twin();
        int dead = 0;
        long x = seed;
        for (int d = 0; d < n; d++) {
            x = x * 16807 % 2147483647;
            if (x % 3 == 0) {
                w.things.get((int) (x % w.things.size())).place = (int) (x % w.places);
            }
            dead += w.pass();
        }
        return what == 0 ? w.living() : dead;
    }

    public int image(int k) {
        if (!in(k, 0, 1)) {
            return BAD;
        }
        if (world == null) {
            return STATE;
        }
        images[k] = world.twin();
        return 1;
    }

    public int restore(int k) {
        if (!in(k, 0, 1)) {
            return BAD;
        }
        if (images[k] == null) {
            return STATE;
        }
        world = images[k].twin();
        acts.clear();
        return 1;
    }

    public int kind(int one) {
        return noPerson(one) ? BAD : " wkbsr".indexOf(world.people.get(one).sort);
    }

    public int as(int one, int kind) {
        if (noPerson(one) || !in(kind, 0, 5)) {
            return BAD;
        }
        String[] are = {"wkbsr", "wkb", "k", "b", "sr", "r"};
        return are[kind].indexOf(world.people.get(one).sort) >= 0 ? sound(one) : found(3);
    }

    /** Bodies by number; the kind's own first, each saying what it is built on. */
    public int ask(int one, int what) {
        if (noPerson(one) || !in(what, 0, 1)) {
            return BAD;
        }
        trace.clear();
        return body(one, first(one, what));
    }

    private int first(int one, int what) {
        int kind = kind(one);
        int[][] firsts = {{10, 11, 12, 11, 13, 14}, {20, 21, 24, 22, 23, 23}};
        return firsts[what][kind];
    }

    private int body(int one, int number) {
        if (trace.size() < 16) {
            trace.add(number);
        }
        Person p = world.people.get(one);
        switch (number) {
            case 10: return p.name;
            case 11: return body(one, 10) + body(one, first(one, 1));
            case 12: return -body(one, 11);
            case 13: return body(one, 10) - 100;
            case 14: return 2 * body(one, 13);
            case 20: return one;
            case 21: return body(one, 20) + p.place;
            case 22: return body(one, 21) - 1000;
            case 23: return body(one, 20) - body(one, first(one, 0));
            default: return 2 * body(one, 21);
        }
    }

    public int trace(int i) {
        return in(i, 0, trace.size() - 1) ? trace.get(i) : NONE;
    }

    public int count(int what) {
        if (!in(what, 0, 7)) {
            return BAD;
        }
        int there = 0;
        for (int[] row : rows) {
            there += row == null ? 0 : 1;
        }
        World w = world == null ? new World() : world;
        int[] told = {there, w.things.size(), w.people.size(), w.day, w.living(), w.places, acts.size(), tape.length()};
        return told[what];
    }

    public int status() {
        return status;
    }
}
