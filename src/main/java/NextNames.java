/**
 * Called after what comes next: people on a ring of places, each kept from the thing he is called after.
 * DOC.md tells, by numbered promises, what every call answers.
 */
public final class NextNames {
    public static final int NONE = -1000000, BAD = -1000001, STATE = -1000002, FULL = -1000003;

    private static final int FINDING = -1000010, FAULT = -1000100;
    private static final int NULL_FOUND = 1, PLACE_FOUND = 2, KIND_FOUND = 3, SIZE_FOUND = 4, STORE_FOUND = 5;
    private static final int ROWS = 8, MOST_ITEMS = 40, LANES = 3;
    private static final int MOST_BYTES = 100, MOST_THINGS = 5, MOST_PEOPLE = 7, MOST_PLACES = 16;
    private static final int MOST_ACTS = 24, IMAGES = 2, LAST_DAY = 999, MOST_LEFT = 16;
    private static final int FAR = 60, NEVER = FAR + 1, MOST_KEPT = 12, TELLABLE = 12, MOST_STEP = 9;
    private static final int MOST_SEED = 999999;
    private static final long FACTOR = 16807L, MODULUS = 2147483647L;
    private static final int PERSON = 0, WALKER = 1, KEPT = 2, BOLD = 3, STAYER = 4, RICH = 5;
    private static final int BY_NAME = 0, BY_SORT = 1, BY_STEP = 2;

    private final Rows rows;
    private final Reader reader;
    private final Land now;
    private final Land trial;
    private final Land[] images;
    private final Acts acts;
    private final Fate fate;
    private final Fate otherFate;
    private final Keeper keeper;
    private final Asker asker;
    private int latestFinding;

    public NextNames() {
        rows = new Rows();
        reader = new Reader();
        now = new Land();
        trial = new Land();
        images = new Land[IMAGES];
        for (int k = 0; k < IMAGES; k++) {
            images[k] = new Land();
        }
        acts = new Acts();
        fate = new Fate();
        otherFate = new Fate();
        keeper = new Keeper();
        asker = new Asker();
        latestFinding = 0;
    }

    // ---- rows

    public int row(int row, int lane, int n) {
        if (!isRow(row) || isOutside(lane, 0, LANES - 1) || n > MOST_ITEMS) {
            return BAD;
        }
        if (n < 0) {
            return found(SIZE_FOUND);
        }
        rows.make(row, lane, n);
        return sound(n);
    }

    public int set(int row, int i, int v) {
        if (!isRow(row)) {
            return BAD;
        }
        int finding = rows.seek(row, i, 1);
        if (finding != 0) {
            return found(finding);
        }
        return sound(rows.put(row, i, v));
    }

    public int copy(int a, int i, int b, int j, int n) {
        if (!isRow(a) || !isRow(b)) {
            return BAD;
        }
        if (rows.isMissing(a) || rows.isMissing(b)) {
            return found(NULL_FOUND);
        }
        if (rows.laneOf(a) != rows.laneOf(b)) {
            return found(STORE_FOUND);
        }
        if (!rows.holds(a, i, n) || !rows.holds(b, j, n)) {
            return found(PLACE_FOUND);
        }
        rows.bring(a, i, b, j, n);
        return sound(n);
    }

    public int drop(int row) {
        if (!isRow(row)) {
            return BAD;
        }
        if (rows.isMissing(row)) {
            return found(NULL_FOUND);
        }
        return sound(rows.lose(row));
    }

    // ---- what is told

    public int feed(int letter) {
        if (isOutside(letter, 0, 255)) {
            return BAD;
        }
        return reader.take(letter) ? reader.size : FULL;
    }

    public int land() {
        if (!reader.readTape()) {
            return FAULT - reader.faultAt;
        }
        now.become(reader.draft);
        acts.forget();
        return now.people;
    }

    public int fault() {
        return reader.faultNumber;
    }

    public int undo() {
        return acts.takeBack(now) ? acts.size : STATE;
    }

    // ---- what is done

    public int days(int n) {
        if (!now.isThere()) {
            return STATE;
        }
        if (isOutside(n, 1, 24)) {
            return BAD;
        }
        if (now.day + n > LAST_DAY) {
            return FULL;
        }
        int died = 0;
        for (int d = 0; d < n; d++) {
            acts.remember(now);
            died += now.passDay(fate);
        }
        return died;
    }

    public int carry(int thing, int place) {
        if (!isThing(thing) || !isPlace(place)) {
            return BAD;
        }
        acts.remember(now);
        int was = now.thingAt[thing];
        now.thingAt[thing] = place;
        return was;
    }

    public int nail(int thing, int on) {
        if (!isThing(thing) || isOutside(on, 0, 1)) {
            return BAD;
        }
        if (now.isNailed(thing) == (on == 1)) {
            return STATE;
        }
        acts.remember(now);
        now.nailed ^= 1 << thing;
        return now.nailed;
    }

    public int keepIn(int person, int n) {
        if (!isPerson(person) || isOutside(n, 0, FAR)) {
            return BAD;
        }
        if (!now.isLiving(person)) {
            return STATE;
        }
        acts.remember(now);
        int was = now.keptFor[person];
        now.keptFor[person] = n;
        return was;
    }

    public int call(int person, int thing) {
        if (!isPerson(person) || !isThing(thing)) {
            return BAD;
        }
        if (!now.isLiving(person)) {
            return STATE;
        }
        acts.remember(now);
        int was = now.name[person];
        now.name[person] = thing;
        return was;
    }

    public int move(int person, int place) {
        if (!isPerson(person) || !isPlace(place)) {
            return BAD;
        }
        if (!now.isLiving(person)) {
            return STATE;
        }
        acts.remember(now);
        int was = now.place[person];
        now.place[person] = place;
        return was;
    }

    public int person(int person, int what) {
        if (!isPerson(person)) {
            return BAD;
        }
        switch (what) {
            case 0: return now.name[person];
            case 1: return now.place[person];
            case 2: return now.step[person];
            case 3: return now.isLiving(person) ? 1 : 0;
            case 4: return now.keptFor[person];
            case 5: return now.diedOn[person];
            default: return BAD;
        }
    }

    public int thing(int thing, int what) {
        if (!isThing(thing)) {
            return BAD;
        }
        switch (what) {
            case 0: return now.thingAt[thing];
            case 1: return now.goes[thing];
            case 2: return now.isNailed(thing) ? 1 : 0;
            case 3: return now.calledAfter(thing);
            default: return BAD;
        }
    }

    // ---- foretold

    public int ahead(int person, int n) {
        if (!isPerson(person) || isOutside(n, 0, FAR)) {
            return BAD;
        }
        fate.begin(now, person);
        return fate.livesBehind(n) ? fate.place : NONE;
    }

    public int liveAhead(int n) {
        if (!now.isThere()) {
            return STATE;
        }
        if (isOutside(n, 0, FAR)) {
            return BAD;
        }
        int living = 0;
        for (int p = 0; p < now.people; p++) {
            fate.begin(now, p);
            living |= fate.livesBehind(n) ? 1 << p : 0;
        }
        return living;
    }

    public int dies(int person) {
        if (!isPerson(person)) {
            return BAD;
        }
        fate.begin(now, person);
        return orNone(fate.diesBehind(FAR));
    }

    public int keepDays(int person, int n, int m, int what) {
        if (!isPerson(person) || isOutside(n, 1, MOST_KEPT) || isOutside(m, 0, MOST_KEPT) || isOutside(what, 0, 1)) {
            return BAD;
        }
        if (!now.isLiving(person)) {
            return STATE;
        }
        keeper.search(now, person, n, m);
        return what == 0 ? orNone(keeper.diesBehind) : keeper.keptDays;
    }

    public int nails(int person, int n, int what) {
        if (!isPerson(person) || isOutside(n, 1, FAR) || isOutside(what, 0, 1)) {
            return BAD;
        }
        if (!now.isLiving(person)) {
            return STATE;
        }
        fate.begin(now, person);
        if (fate.livesBehind(n)) {
            return 0;
        }
        // No THING but his own bears on him; nailed down already it stands still as it is, and the first look told all.
        fate.begin(now, person);
        fate.goes = 0;
        if (!fate.livesBehind(n)) {
            return NONE;
        }
        return what == 0 ? 1 : 1 << now.name[person];
    }

    public int names(int person, int n) {
        if (!isPerson(person) || isOutside(n, 1, FAR)) {
            return BAD;
        }
        if (!now.isLiving(person)) {
            return STATE;
        }
        int safe = 0;
        for (int t = 0; t < now.things; t++) {
            fate.begin(now, person);
            fate.callAfter(now, t);
            safe |= fate.livesBehind(n) ? 1 << t : 0;
        }
        return safe;
    }

    public int safest(int person) {
        if (!isPerson(person)) {
            return BAD;
        }
        if (!now.isLiving(person)) {
            return STATE;
        }
        int best = 0;
        int latest = -1;
        for (int place = 0; place < now.places; place++) {
            fate.begin(now, person);
            fate.place = place;
            int dies = fate.diesBehind(FAR);
            if (dies > latest) {
                latest = dies;
                best = place;
            }
        }
        return best;
    }

    public int meet(int person, int other) {
        if (!isPerson(person) || !isPerson(other) || person == other) {
            return BAD;
        }
        fate.begin(now, person);
        otherFate.begin(now, other);
        for (int d = 0; d <= FAR; d++) {
            if (!fate.lives || !otherFate.lives) {
                return NONE;
            }
            if (fate.place == otherFate.place) {
                return d;
            }
            fate.passDay();
            otherFate.passDay();
        }
        return NONE;
    }

    public int fatal(int n) {
        if (!now.isThere()) {
            return STATE;
        }
        if (isOutside(n, 1, FAR)) {
            return BAD;
        }
        int deadly = 0;
        for (int p = 0; p < now.people; p++) {
            fate.begin(now, p);
            if (fate.lives && !fate.livesBehind(n)) {
                deadly |= 1 << now.name[p];
            }
        }
        return deadly;
    }

    public int called(int person, int row, int i, int n) {
        return allThatFit(BY_NAME, person, row, i, n);
    }

    public int who(int person, int row, int i, int n) {
        return allThatFit(BY_SORT, person, row, i, n);
    }

    public int steps(int person, int row, int i, int n) {
        return allThatFit(BY_STEP, person, row, i, n);
    }

    public int namesakes(int what) {
        if (!now.isThere()) {
            return STATE;
        }
        if (isOutside(what, 0, 1)) {
            return BAD;
        }
        int pairs = 0;
        int first = NONE;
        for (int p = 0; p < now.people; p++) {
            for (int q = p + 1; q < now.people; q++) {
                if (now.areNamesakes(p, q)) {
                    first = pairs == 0 ? 10 * p + q : first;
                    pairs++;
                }
            }
        }
        return what == 0 ? pairs : first;
    }

    public long still(int person, int p, int what) {
        if (!isPerson(person) || isOutside(p, 0, 10) || isOutside(what, 0, 1)) {
            return BAD;
        }
        fate.begin(now, person);
        int cases = fate.livesBehind(1) ? 10 - p : 0;
        fate.begin(now, person);
        fate.goes = 0;
        cases += fate.livesBehind(1) ? p : 0;
        int part = sharedPart(cases, 10);
        return what == 0 ? cases / part : 10 / part;
    }

    public int life() {
        if (!now.isThere()) {
            return STATE;
        }
        int sum = 0;
        for (int p = 0; p < now.people; p++) {
            fate.begin(now, p);
            sum += Math.min(fate.diesBehind(FAR), FAR);
        }
        return sum;
    }

    public int drawn(int n, int seed, int what) {
        if (!now.isThere()) {
            return STATE;
        }
        if (isOutside(n, 0, FAR) || isOutside(seed, 1, MOST_SEED) || isOutside(what, 0, 1)) {
            return BAD;
        }
        trial.become(now);
        long x = seed;
        int died = 0;
        for (int d = 0; d < n; d++) {
            x = x * FACTOR % MODULUS;
            if (x % 3 == 0) {
                trial.carryByDraw(x);
            }
            died += trial.passDay(fate);
        }
        return what == 0 ? trial.living : died;
    }

    public int image(int k) {
        if (isOutside(k, 0, IMAGES - 1)) {
            return BAD;
        }
        if (!now.isThere()) {
            return STATE;
        }
        images[k].become(now);
        return 1;
    }

    public int restore(int k) {
        if (isOutside(k, 0, IMAGES - 1)) {
            return BAD;
        }
        if (!images[k].isThere()) {
            return STATE;
        }
        now.become(images[k]);
        acts.forget();
        return 1;
    }

    // ---- asked

    public int kind(int one) {
        return isPerson(one) ? now.sort[one] : BAD;
    }

    public int as(int one, int kind) {
        if (!isPerson(one) || isOutside(kind, PERSON, RICH)) {
            return BAD;
        }
        return isOfKind(now.sort[one], kind) ? sound(one) : found(KIND_FOUND);
    }

    public int ask(int one, int what) {
        if (!isPerson(one) || isOutside(what, 0, 1)) {
            return BAD;
        }
        asker.begin(now, one);
        return what == 0 ? asker.size() : asker.mark();
    }

    public int trace(int i) {
        return isOutside(i, 0, asker.leftCount - 1) ? NONE : asker.left[i];
    }

    public int count(int what) {
        switch (what) {
            case 0: return rows.standing();
            case 1: return now.things;
            case 2: return now.people;
            case 3: return now.day;
            case 4: return now.living;
            case 5: return now.places;
            case 6: return acts.size;
            case 7: return reader.size;
            default: return BAD;
        }
    }

    public int status() {
        return latestFinding;
    }

    // ---- what the calls share

    private static boolean isOutside(int value, int low, int high) {
        return value < low || value > high;
    }

    /** A place on the ring of so many places; the value is never below 0. */
    private static int wrap(int value, int places) {
        return places < 1 ? 0 : value % places;
    }

    private static int orNone(int behind) {
        return behind >= NEVER ? NONE : behind;
    }

    /** The greatest number that divides both; 1 at least, so that it can be divided by. */
    private static int sharedPart(int a, int b) {
        for (int part = Math.max(a, b); part > 1; part--) {
            if (a % part == 0 && b % part == 0) {
                return part;
            }
        }
        return 1;
    }

    private static boolean isOfKind(int sort, int kind) {
        return kind == PERSON || kind == sort
            || kind == WALKER && (sort == KEPT || sort == BOLD)
            || kind == STAYER && sort == RICH;
    }

    private static boolean isRow(int row) {
        return !isOutside(row, 0, ROWS - 1);
    }

    private boolean isPerson(int person) {
        return !isOutside(person, 0, now.people - 1);
    }

    private boolean isThing(int thing) {
        return !isOutside(thing, 0, now.things - 1);
    }

    private boolean isPlace(int place) {
        return !isOutside(place, 0, now.places - 1);
    }

    /** CALLED, WHO, STEPS: the bits of all that one could be, so that he is where the row tells. */
    private int allThatFit(int by, int person, int row, int i, int n) {
        if (!isPerson(person) || !isRow(row) || isOutside(n, 1, TELLABLE)) {
            return BAD;
        }
        int finding = rows.seek(row, i, n);
        if (finding != 0) {
            return found(finding);
        }
        int first = by == BY_SORT ? WALKER : 0;
        int last = by == BY_SORT ? RICH : by == BY_NAME ? now.things - 1 : MOST_STEP;
        int fitting = 0;
        for (int one = first; one <= last; one++) {
            fate.begin(now, person);
            switch (by) {
                case BY_NAME: fate.callAfter(now, one); break;
                case BY_SORT: fate.sort = one; break;
                default: fate.step = one; break;
            }
            fitting |= fits(row, i, n) ? 1 << one : 0;
        }
        return sound(fitting);
    }

    /** Whether the fate that has begun goes as the row tells. */
    private boolean fits(int row, int i, int n) {
        for (int d = 0; d < n; d++) {
            fate.passDay();
            int seen = fate.lives ? fate.place : -1;
            if (rows.item(row, i + d) != seen) {
                return false;
            }
        }
        return true;
    }

    private int found(int finding) {
        latestFinding = finding;
        return FINDING - finding;
    }

    private int sound(int answer) {
        latestFinding = 0;
        return answer;
    }

    /** The eight ROWS, all in one array that is made once. */
    private static final class Rows {
        private static final int MISSING = -1;
        final int[] items = new int[ROWS * MOST_ITEMS];
        final int[] lanes = new int[ROWS];
        final int[] sizes = new int[ROWS];

        Rows() {
            for (int r = 0; r < ROWS; r++) {
                sizes[r] = MISSING;
            }
        }

        boolean isMissing(int row) {
            return sizes[row] == MISSING;
        }

        int laneOf(int row) {
            return lanes[row];
        }

        int item(int row, int i) {
            return items[row * MOST_ITEMS + i];
        }

        /** Whether n ITEMS stand from i on; i is held against what is left, as a sum could run over. */
        boolean holds(int row, int i, int n) {
            return i >= 0 && n >= 0 && n <= sizes[row] && i <= sizes[row] - n;
        }

        /** The FINDING of one who wants n ITEMS from i on; 0: none. */
        int seek(int row, int i, int n) {
            if (isMissing(row)) {
                return NULL_FOUND;
            }
            return holds(row, i, n) ? 0 : PLACE_FOUND;
        }

        void make(int row, int lane, int n) {
            lanes[row] = lane;
            sizes[row] = n;
            for (int i = 0; i < n; i++) {
                items[row * MOST_ITEMS + i] = 0;
            }
        }

        int put(int row, int i, int v) {
            int kept = lanes[row] == 0 ? (byte) v : lanes[row] == 1 ? (short) v : v;
            items[row * MOST_ITEMS + i] = kept;
            return kept;
        }

        void bring(int a, int i, int b, int j, int n) {
            System.arraycopy(items, a * MOST_ITEMS + i, items, b * MOST_ITEMS + j, n);
        }

        int lose(int row) {
            int had = sizes[row];
            sizes[row] = MISSING;
            return had;
        }

        int standing() {
            int there = 0;
            for (int r = 0; r < ROWS; r++) {
                there += isMissing(r) ? 0 : 1;
            }
            return there;
        }
    }

    /** A LAND with all that stands in it; without PLACES it is none. */
    private static final class Land {
        int places;
        int late;
        int day;
        int things;
        int people;
        int nailed;
        int living;
        final int[] thingAt = new int[MOST_THINGS];
        final int[] goes = new int[MOST_THINGS];
        final int[] sort = new int[MOST_PEOPLE];
        final int[] name = new int[MOST_PEOPLE];
        final int[] place = new int[MOST_PEOPLE];
        final int[] step = new int[MOST_PEOPLE];
        final int[] keptFor = new int[MOST_PEOPLE];
        final int[] diedOn = new int[MOST_PEOPLE];

        boolean isThere() {
            return places > 0;
        }

        boolean isLiving(int person) {
            return (living >> person & 1) == 1;
        }

        boolean isNailed(int thing) {
            return (nailed >> thing & 1) == 1;
        }

        boolean areNamesakes(int p, int q) {
            return isLiving(p) && isLiving(q) && name[p] == name[q];
        }

        int calledAfter(int thing) {
            int bits = 0;
            for (int p = 0; p < people; p++) {
                bits |= name[p] == thing ? 1 << p : 0;
            }
            return bits;
        }

        void become(Land other) {
            places = other.places;
            late = other.late;
            day = other.day;
            things = other.things;
            people = other.people;
            nailed = other.nailed;
            living = other.living;
            System.arraycopy(other.thingAt, 0, thingAt, 0, MOST_THINGS);
            System.arraycopy(other.goes, 0, goes, 0, MOST_THINGS);
            System.arraycopy(other.sort, 0, sort, 0, MOST_PEOPLE);
            System.arraycopy(other.name, 0, name, 0, MOST_PEOPLE);
            System.arraycopy(other.place, 0, place, 0, MOST_PEOPLE);
            System.arraycopy(other.step, 0, step, 0, MOST_PEOPLE);
            System.arraycopy(other.keptFor, 0, keptFor, 0, MOST_PEOPLE);
            System.arraycopy(other.diedOn, 0, diedOn, 0, MOST_PEOPLE);
        }

        void carryByDraw(long x) {
            if (things > 0 && places > 0) {
                thingAt[(int) (x % things)] = (int) (x % places);
            }
        }

        /** A DAY: how many died in it. PEOPLE come ahead of THINGS, as a fate moves its THING itself. */
        int passDay(Fate fate) {
            int died = 0;
            for (int p = 0; p < people; p++) {
                boolean lived = isLiving(p);
                fate.begin(this, p);
                fate.passDay();
                place[p] = fate.place;
                keptFor[p] = fate.keptFor;
                if (lived && !fate.lives) {
                    living &= ~(1 << p);
                    diedOn[p] = day;
                    died++;
                }
            }
            for (int t = 0; t < things; t++) {
                thingAt[t] = isNailed(t) ? thingAt[t] : wrap(thingAt[t] + goes[t], places);
            }
            day++;
            return died;
        }
    }

    /** One PERSON and his THING, DAY by DAY: nobody and nothing else bears on him. */
    private static final class Fate {
        int places;
        int late;
        int day;
        int thingAt;
        int goes;
        int sort;
        int place;
        int step;
        int keptFor;
        boolean lives;

        void begin(Land land, int person) {
            places = land.places;
            late = land.late;
            day = land.day;
            sort = land.sort[person];
            place = land.place[person];
            step = land.step[person];
            keptFor = land.keptFor[person];
            lives = land.isLiving(person);
            callAfter(land, land.name[person]);
        }

        void callAfter(Land land, int thing) {
            thingAt = land.thingAt[thing];
            goes = land.isNailed(thing) ? 0 : land.goes[thing];
        }

        void passDay() {
            thingAt = wrap(thingAt + goes, places);
            if (lives && keptFor == 0) {
                place = goal();
            }
            if (lives && place == thingAt && (sort != RICH || day >= late)) {
                lives = false;
            }
            day++;
            keptFor = Math.max(keptFor - 1, 0);
        }

        /** Where he goes, when his THING has gone. */
        int goal() {
            int ahead = wrap(place + step, places);
            boolean chased = wrap(thingAt + 1, places) == place;
            switch (sort) {
                case WALKER: return ahead;
                case KEPT: return ahead == thingAt ? place : ahead;
                case BOLD: return wrap(place + 2 * step, places);
                case STAYER: return chased ? wrap(place + 1, places) : place;
                case RICH: return chased ? wrap(place + late, places) : place;
                default: return place;
            }
        }

        boolean livesBehind(int n) {
            for (int d = 0; d < n && lives; d++) {
                passDay();
            }
            return lives;
        }

        /** Behind how many of the next n DAYS he dies; 0: he is dead; NEVER. */
        int diesBehind(int n) {
            if (!lives) {
                return 0;
            }
            for (int d = 1; d <= n; d++) {
                passDay();
                if (!lives) {
                    return d;
                }
            }
            return NEVER;
        }
    }

    /**
     * KEEP, from the last DAY back to the first: for every PLACE and every number of DAYS that may be spent yet,
     * the least cost. A cost is how early he dies, then how many DAYS are spent, then their bits, so that the least
     * is the best by the document's order.
     */
    private static final class Keeper {
        private static final int COLUMNS = MOST_KEPT + 1;
        private static final int SPENT_UNIT = 1 << MOST_KEPT, EARLY_UNIT = SPENT_UNIT << 4;
        final Fate fate = new Fate();
        final int[] costs = new int[MOST_PLACES * COLUMNS];
        final int[] laterCosts = new int[MOST_PLACES * COLUMNS];
        int diesBehind;
        int keptDays;

        void search(Land land, int person, int n, int m) {
            for (int place = 0; place < land.places; place++) {
                stand(land, person, n, place);
                int dies = fate.diesBehind(FAR - n);
                int cost = earlyCost(dies >= NEVER ? NEVER : n + dies);
                for (int k = 0; k <= m; k++) {
                    costs[place * COLUMNS + k] = cost;
                }
            }
            for (int d = n - 1; d >= 0; d--) {
                System.arraycopy(costs, 0, laterCosts, 0, costs.length);
                for (int place = 0; place < land.places; place++) {
                    weigh(land, person, d, place, m);
                }
            }
            int best = costs[land.place[person] * COLUMNS + m];
            diesBehind = NEVER - best / EARLY_UNIT;
            keptDays = best % SPENT_UNIT;
        }

        /** He lives and is at a PLACE, d DAYS from now, kept in no more. */
        void stand(Land land, int person, int d, int place) {
            fate.begin(land, person);
            fate.thingAt = wrap(fate.thingAt + d * fate.goes, fate.places);
            fate.day += d;
            fate.place = place;
            fate.keptFor = 0;
        }

        void weigh(Land land, int person, int d, int place, int m) {
            stand(land, person, d, place);
            fate.passDay();
            boolean freeLives = fate.lives;
            int freeRow = fate.place * COLUMNS;
            stand(land, person, d, place);
            fate.keptFor = 1;
            fate.passDay();
            boolean keptLives = fate.lives;
            int keptRow = fate.place * COLUMNS;
            int dead = earlyCost(d + 1);
            for (int k = 0; k <= m; k++) {
                int cost = freeLives ? laterCosts[freeRow + k] : dead;
                if (k > 0 && keptLives) {
                    cost = Math.min(cost, laterCosts[keptRow + k - 1] + SPENT_UNIT + (1 << d));
                }
                costs[place * COLUMNS + k] = cost;
            }
        }

        int earlyCost(int dies) {
            return (NEVER - dies) * EARLY_UNIT;
        }
    }

    /** ACTS that can be undone: the LAND as it was ahead of each, in a ring of slots. */
    private static final class Acts {
        final Land[] before = new Land[MOST_ACTS];
        int oldest;
        int size;

        Acts() {
            for (int i = 0; i < MOST_ACTS; i++) {
                before[i] = new Land();
            }
        }

        void forget() {
            size = 0;
        }

        void remember(Land land) {
            before[(oldest + size) % MOST_ACTS].become(land);
            if (size < MOST_ACTS) {
                size++;
            } else {
                oldest = (oldest + 1) % MOST_ACTS;
            }
        }

        boolean takeBack(Land land) {
            if (size == 0) {
                return false;
            }
            size--;
            land.become(before[(oldest + size) % MOST_ACTS]);
            return true;
        }
    }

    /** THE TAPE, and how it is read TOKEN by TOKEN into a draft of a LAND. */
    private static final class Reader {
        private static final int END = 0, NUMBER = 1, NO_TOKEN = 2;
        private static final int MISPLACED = 1, NOT_AS_TOLD = 2, NO_ROOM = 3;
        final int[] tape = new int[MOST_BYTES];
        final Land draft = new Land();
        int size;
        int faultNumber;
        int faultAt;
        int at;
        int end;
        int token;
        int value;
        int number;

        boolean take(int letter) {
            if (size >= MOST_BYTES) {
                return false;
            }
            tape[size] = letter;
            size++;
            return true;
        }

        /** Whether there was no FAULT; the tape is empty then, anyhow. */
        boolean readTape() {
            at = 0;
            look();
            boolean sound = readLaw() && readThing();
            for (int t = 1; t <= MOST_THINGS && sound && token == 't'; t++) {
                sound = readThing();
            }
            sound = sound && readPerson();
            for (int p = 1; p <= MOST_PEOPLE && sound && token != END; p++) {
                sound = readPerson();
            }
            size = 0;
            return sound;
        }

        boolean readLaw() {
            draft.day = 0;
            draft.things = 0;
            draft.people = 0;
            draft.nailed = 0;
            draft.living = 0;
            if (!takeSign('n') || !takeNumber(2, MOST_PLACES)) {
                return false;
            }
            draft.places = number;
            if (!takeSign(',') || !takeNumber(0, 9)) {
                return false;
            }
            draft.late = number;
            return takeSign(';');
        }

        boolean readThing() {
            int t = draft.things;
            if (token != 't') {
                return blame(MISPLACED);
            }
            if (t >= MOST_THINGS) {
                return blame(NO_ROOM);
            }
            if (!takeSign('t') || !takeNumber(0, draft.places - 1)) {
                return false;
            }
            draft.thingAt[t] = number;
            if (!takeSign(',') || !takeNumber(0, 15)) {
                return false;
            }
            draft.goes[t] = number;
            draft.things = t + 1;
            return takeSign(';');
        }

        boolean readPerson() {
            int p = draft.people;
            int sort = sortOf(token);
            if (sort == PERSON) {
                return blame(MISPLACED);
            }
            if (p >= MOST_PEOPLE) {
                return blame(NO_ROOM);
            }
            if (!takeSign(token) || !takeNumber(0, draft.things - 1)) {
                return false;
            }
            draft.name[p] = number;
            if (!takeSign(',') || !takeNumber(0, draft.places - 1)) {
                return false;
            }
            draft.place[p] = number;
            if (!takeSign(',') || !takeNumber(0, MOST_STEP)) {
                return false;
            }
            draft.step[p] = number;
            draft.sort[p] = sort;
            draft.keptFor[p] = 0;
            draft.diedOn[p] = NONE;
            draft.living |= 1 << p;
            draft.people = p + 1;
            return takeSign(';');
        }

        int sortOf(int letter) {
            switch (letter) {
                case 'w': return WALKER;
                case 'k': return KEPT;
                case 'b': return BOLD;
                case 's': return STAYER;
                case 'r': return RICH;
                default: return PERSON;
            }
        }

        boolean takeSign(int sign) {
            return token == sign ? goOn() : blame(MISPLACED);
        }

        boolean takeNumber(int low, int high) {
            if (token != NUMBER) {
                return blame(MISPLACED);
            }
            if (isOutside(value, low, high)) {
                return blame(NOT_AS_TOLD);
            }
            number = value;
            return goOn();
        }

        boolean blame(int fault) {
            faultNumber = fault;
            faultAt = at;
            return false;
        }

        boolean goOn() {
            at = end;
            look();
            return true;
        }

        /** The TOKEN that begins at this byte: a letter or a sign is its own number, which no other token has. */
        void look() {
            end = at;
            token = END;
            if (at >= size) {
                return;
            }
            int first = tape[at];
            end = at + 1;
            if (first == ',' || first == ';' || first >= 'a' && first <= 'z') {
                token = first;
                return;
            }
            token = NO_TOKEN;
            if (!isFigure(at)) {
                return;
            }
            value = first - '0';
            if (isFigure(end)) {
                value = 10 * value + tape[end] - '0';
                end++;
            }
            // Behind one figure no other stands here: only a run of three is found.
            token = isFigure(end) ? NO_TOKEN : NUMBER;
        }

        boolean isFigure(int i) {
            return i < size && tape[i] >= '0' && tape[i] <= '9';
        }
    }

    /** ASKS of one PERSON, by BODIES that leave their numbers in THE TRACE. */
    private static final class Asker {
        final int[] left = new int[MOST_LEFT];
        int leftCount;
        int number;
        int sort;
        int name;
        int place;

        void begin(Land land, int one) {
            leftCount = 0;
            number = one;
            sort = land.sort[one];
            name = land.name[one];
            place = land.place[one];
        }

        void leave(int body) {
            if (leftCount < MOST_LEFT) {
                left[leftCount] = body;
                leftCount++;
            }
        }

        int size() {
            switch (sort) {
                case WALKER:
                case BOLD:
                    return sizeOfWalker();
                case KEPT:
                    leave(12);
                    return 0 - sizeOfWalker();
                case STAYER:
                case RICH:
                    return sizeAmongStayers();
                default:
                    return lentSize();
            }
        }

        int mark() {
            switch (sort) {
                case WALKER:
                case BOLD:
                case KEPT:
                    return markAmongWalkers();
                case STAYER:
                case RICH:
                    leave(23);
                    return lentMark() - sizeAmongStayers();
                default:
                    return lentMark();
            }
        }

        /** MARK of all who walk: their SIZE asks for it anew, but it for no SIZE, so nothing calls itself. */
        int markAmongWalkers() {
            switch (sort) {
                case BOLD:
                    leave(22);
                    return markOfWalker() - 1000;
                case KEPT:
                    leave(24);
                    return 2 * markOfWalker();
                default:
                    return markOfWalker();
            }
        }

        /** SIZE of all who stay: their MARK asks for it anew, but it for no MARK. */
        int sizeAmongStayers() {
            if (sort == RICH) {
                leave(14);
                return 2 * sizeOfStayer();
            }
            return sizeOfStayer();
        }

        int lentSize() {
            leave(10);
            return name;
        }

        int sizeOfWalker() {
            leave(11);
            return lentSize() + markAmongWalkers();
        }

        int sizeOfStayer() {
            leave(13);
            return lentSize() - 100;
        }

        int lentMark() {
            leave(20);
            return number;
        }

        int markOfWalker() {
            leave(21);
            return lentMark() + place;
        }
    }
}
