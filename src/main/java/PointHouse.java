import java.util.Arrays;

/** What a name may point to, told by the lines of a small language. */
public final class PointHouse {
    public static final int NONE = -1, BAD = -2, STATE = -3, FULL = -4;
    public static final long NO = -4611686018427387904L;

    private static final int NONE_SUCH = -5;
    private static final int MISSING = -11, OUTSIDE = -12, OTHER_SORT = -13, BELOW_ZERO = -14;
    private static final int FAULT_BASE = -100;

    private static final int MOST_KINDS = 8, ACTS = 3, FUNCTIONS = 6;
    private static final int NAMES = 20, FIELDS = 3, MOST_OBJECTS = 16;
    private static final int MOST_LINES = 40, THREADS = 3, LOCKS = 4, MOST_TAPE = 20;
    private static final int SHEETS = 4, MOST_ITEMS = 40, SHEET_SORTS = 3;
    private static final int MOST_BUDGET = 99999, MOST_SEED = 99999, MOST_STEPS = 500;

    private static final int GIVE = 0, CAST = 1, READ = 2, WRITE = 3, CALL = 4, MAKE = 5, SORTS = 6;
    private static final int SELF = 0, GIVEN = 1, BACK = 2, ROLES = 3;

    /** The names come first, then the fields of each object. */
    private static final int PLACES = NAMES + MOST_OBJECTS * FIELDS;
    /** Each round but the last adds at least one object to one place. */
    private static final int MOST_ROUNDS = PLACES * MOST_OBJECTS + 1;

    private final Kinds kinds;
    private final Tape tape;
    private final Give[] lines;
    private int lineCount;
    private final Sets objectSets;
    private final Sets kindSets;
    private final Sets trialSets;
    private final Machine machine;
    private final Sheet[] sheets;

    public PointHouse() {
        kinds = new Kinds();
        tape = new Tape();
        lines = new Give[MOST_LINES];
        lineCount = 0;
        objectSets = new Sets(kinds, lines, false);
        kindSets = new Sets(kinds, lines, true);
        trialSets = new Sets(kinds, lines, false);
        machine = new Machine(kinds);
        sheets = new Sheet[SHEETS];
        for (int i = 0; i < sheets.length; i++) {
            sheets[i] = new Sheet();
        }
    }

    // ---- kinds, functions

    public int kind(int above) {
        if (above != NONE && !kinds.isTold(above)) {
            return BAD;
        }
        if (kinds.isFull()) {
            return FULL;
        }
        forgetSets();
        return kinds.tell(above);
    }

    public int has(int kind, int act, int function) {
        if (!kinds.isTold(kind) || !isWithin(act, 0, ACTS - 1)
                || !isWithin(function, NONE, FUNCTIONS - 1)) {
            return NONE_SUCH;
        }
        forgetSets();
        return kinds.setOwn(kind, act, function);
    }

    public int aim(int kind, int act) {
        if (!kinds.isTold(kind) || !isWithin(act, 0, ACTS - 1)) {
            return BAD;
        }
        return kinds.aimOf(kind, act);
    }

    public int names(int function, int self, int given, int back) {
        if (!isWithin(function, 0, FUNCTIONS - 1) || !isNameOrNone(self)
                || !isNameOrNone(given) || !isNameOrNone(back)) {
            return BAD;
        }
        forgetSets();
        kinds.setRole(function, SELF, self);
        kinds.setRole(function, GIVEN, given);
        kinds.setRole(function, BACK, back);
        return 1;
    }

    public int under(int kind, int other) {
        if (!kinds.isTold(kind) || !kinds.isTold(other)) {
            return BAD;
        }
        return bit(kinds.isUnder(kind, other));
    }

    // ---- lines

    public int feed(int n, long bytes) {
        if (!isWithin(n, 1, 8)) {
            return BAD;
        }
        if (!tape.hasRoom(n)) {
            return FULL;
        }
        for (int i = 0; i < n; i++) {
            tape.push((int) (bytes >>> (8 * i)));
        }
        return tape.size;
    }

    public int line(int thread, int lock) {
        if (!isWithin(thread, 0, THREADS - 1) || !isWithin(lock, 0, LOCKS - 1)) {
            return BAD;
        }
        if (lineCount < 0 || lineCount >= lines.length) {
            return FULL;
        }
        int sort = tape.sortTold();
        if (sort == NONE) {
            int fault = tape.faultPlace();
            tape.clear();
            return FAULT_BASE - fault;
        }
        if (sort == MAKE && !kinds.hasRoomForObject()) {
            return FULL;
        }
        Give fresh = lineOfTape(sort);
        fresh.thread = thread;
        fresh.lock = lock;
        lines[lineCount] = fresh;
        tape.clear();
        forgetSets();
        return lineCount++;
    }

    public int lineTold(int line, int what) {
        Give told = lineAt(line);
        if (told == null) {
            return BAD;
        }
        switch (what) {
            case 0: return told.sort();
            case 1: return told.x;
            case 2: return told.y;
            case 3: return told.number;
            case 4: return told.argument();
            case 5: return told.thread;
            case 6: return told.lock;
            case 7: return bit(told.isOn);
            case 8: return told.inside;
            case 9: return told.work();
            case 10: return told.object();
            default: return BAD;
        }
    }

    public int turn(int line, int on) {
        Give told = lineAt(line);
        if (told == null || !isWithin(on, 0, 1)) {
            return BAD;
        }
        int before = bit(told.isOn);
        told.isOn = on == 1;
        forgetSets();
        return before;
    }

    public int in(int line, int function) {
        Give told = lineAt(line);
        if (told == null || !isWithin(function, NONE, FUNCTIONS - 1)) {
            return NONE_SUCH;
        }
        int before = told.inside;
        told.inside = function;
        return before;
    }

    // ---- what is held

    public int holds(int name) {
        if (!isName(name)) {
            return BAD;
        }
        return objectSets.filled().heldAt(name);
    }

    public int field(int object, int field) {
        if (!kinds.isObject(object) || !isWithin(field, 0, FIELDS - 1)) {
            return BAD;
        }
        return objectSets.filled().heldAt(fieldPlace(object, field));
    }

    public int still() {
        return objectSets.filled().rounds;
    }

    public int way(int object, int name) {
        if (!kinds.isObject(object) || !isName(name)) {
            return BAD;
        }
        return objectSets.filled().roundsTo(object, name);
    }

    public int byKinds(int name) {
        if (!isName(name)) {
            return BAD;
        }
        return kindSets.filled().heldAt(name);
    }

    public int tooMuch(int name) {
        if (!isName(name)) {
            return BAD;
        }
        int told = kindSets.filled().heldAt(name);
        int real = kinds.kindsOf(objectSets.filled().heldAt(name));
        return Integer.bitCount(told & ~real);
    }

    public int ask(int name, int budget, int what) {
        if (!isName(name) || !isWithin(budget, 0, MOST_BUDGET) || !isWithin(what, 0, 2)) {
            return BAD;
        }
        Sets sets = objectSets.filled();
        int price = workOfLinesOn();
        int paidRounds = price > 0 ? Math.min(sets.rounds, budget / price) : 0;
        boolean isSpent = paidRounds < sets.rounds;
        if (what == 1) {
            return bit(isSpent);
        }
        if (what == 2) {
            return paidRounds * price;
        }
        return isSpent ? objectsOn() : sets.heldAt(name);
    }

    // ---- what follows

    public int cast(int line) {
        Give told = lineAt(line);
        if (told == null) {
            return BAD;
        }
        if (!(told instanceof Cast)) {
            return STATE;
        }
        Sets sets = objectSets.filled();
        int all = sets.heldAt(told.y);
        int passing = sets.partUnder(all, told.number);
        if (passing == all) {
            return 0;
        }
        return passing != 0 ? 1 : 2;
    }

    public int aims(int line) {
        Give told = lineAt(line);
        if (told == null) {
            return BAD;
        }
        if (!(told instanceof Call)) {
            return STATE;
        }
        return aimsOf(told, objectSets.filled());
    }

    public int dead() {
        Sets sets = objectSets.filled();
        int called = 0;
        for (Give told : lines) {
            if (told instanceof Call && told.isOn) {
                called |= aimsOf(told, sets);
            }
        }
        return ((1 << FUNCTIONS) - 1) & ~called;
    }

    public long cut(int object, int name) {
        if (!kinds.isObject(object) || !isName(name)) {
            return NO;
        }
        if (!hasBit(objectSets.filled().heldAt(name), object)) {
            return 0;
        }
        long needed = 0;
        for (int i = 0; i < lineCount; i++) {
            Give told = lineAt(i);
            if (told != null && told.isOn) {
                trialSets.fill(i);
                if (!hasBit(trialSets.heldAt(name), object)) {
                    needed |= 1L << i;
                }
            }
        }
        return needed;
    }

    public int same(int a, int b) {
        if (!isName(a) || !isName(b)) {
            return BAD;
        }
        Sets sets = objectSets.filled();
        int held = sets.heldAt(a);
        return bit(Integer.bitCount(held) == 1 && held == sets.heldAt(b));
    }

    public int melted(int name) {
        if (!isName(name)) {
            return BAD;
        }
        int round = flowFrom(name, true) & flowFrom(name, false);
        return Integer.numberOfTrailingZeros(round);
    }

    public int leaves() {
        Sets sets = objectSets.filled();
        int out = 0;
        for (Give told : lines) {
            if (told instanceof Make && isHeldElsewhere(told, sets)) {
                out |= 1 << told.object();
            }
        }
        // Each turn but the last lets one more object leave.
        for (int i = 0; i < MOST_OBJECTS; i++) {
            out |= sets.heldInFieldsOf(out);
        }
        return out;
    }

    public int race(int i) {
        Sets sets = objectSets.filled();
        int found = 0;
        for (int a = 0; a < lineCount; a++) {
            for (int b = a + 1; b < lineCount; b++) {
                if (isRace(lineAt(a), lineAt(b), sets)) {
                    if (found == i) {
                        return 100 * a + b;
                    }
                    found++;
                }
            }
        }
        return i == -1 ? found : NONE;
    }

    // ---- the machine

    public int run(int seed, int n) {
        if (!isWithin(seed, 0, MOST_SEED) || !isWithin(n, 0, MOST_STEPS)) {
            return BAD;
        }
        if (lineCount <= 0) {
            return STATE;
        }
        machine.begin();
        long lot = seed + 1;
        int done = 0;
        for (int i = 0; i < n; i++) {
            lot = lot * 48271 % 2147483647;
            Give told = lineAt((int) (lot % lineCount));
            if (told != null && told.isOn && told.act(machine)) {
                done++;
            }
        }
        return done;
    }

    public int seen(int name) {
        return isName(name) ? machine.hadAt(name) : BAD;
    }

    public int now(int name) {
        return isName(name) ? machine.objectAt(name) : BAD;
    }

    public int count(int what) {
        switch (what) {
            case 0: return kinds.kindCount;
            case 1: return lineCount;
            case 2: return linesOn();
            case 3: return kinds.objectCount;
            case 4: return tape.size;
            case 5: return workOfLinesOn();
            default: return BAD;
        }
    }

    // ---- the host

    public int sheet(int sheet, int sort, int n) {
        Sheet row = sheetAt(sheet);
        if (row == null || !isWithin(sort, NONE, SHEET_SORTS - 1)) {
            return BAD;
        }
        if (sort != NONE && n > MOST_ITEMS) {
            return BAD;
        }
        if (sort != NONE && n < 0) {
            return BELOW_ZERO;
        }
        row.become(sort, n);
        return 1;
    }

    public int cell(int sheet, int i, int v) {
        Sheet row = sheetAt(sheet);
        if (row == null) {
            return BAD;
        }
        if (row.isMissing()) {
            return MISSING;
        }
        if (!row.covers(i, 1)) {
            return OUTSIDE;
        }
        row.put(i, v);
        return 1;
    }

    public int copy(int sheet, int i, int other, int j, int n) {
        Sheet from = sheetAt(sheet);
        Sheet to = sheetAt(other);
        if (from == null || to == null) {
            return BAD;
        }
        if (from.isMissing() || to.isMissing()) {
            return MISSING;
        }
        if (from.sort != to.sort) {
            return OTHER_SORT;
        }
        if (!from.covers(i, n) || !to.covers(j, n)) {
            return OUTSIDE;
        }
        System.arraycopy(from.items, i, to.items, j, n);
        return n;
    }

    public int taped(int sheet, int sort, int from, int n) {
        Sheet row = sheetAt(sheet);
        if (row == null || !isWithin(sort, 0, SHEET_SORTS - 1) || !isWithin(n, 0, MOST_TAPE)) {
            return BAD;
        }
        // A missing sheet may be taken for one of any sort.
        if (!row.isMissing() && row.sort != sort) {
            return OTHER_SORT;
        }
        if (row.isMissing()) {
            return MISSING;
        }
        // Where no number is taken, none stands outside, wherever they would begin.
        if (n > 0 && !row.covers(from, n)) {
            return OUTSIDE;
        }
        if (!tape.hasRoom(n)) {
            return FULL;
        }
        for (int i = 0; i < n; i++) {
            tape.push(row.itemAt(from + i));
        }
        return tape.size;
    }

    public int taken(int line, int k) {
        if (!isWithin(k, 0, SORTS - 1)) {
            return BAD;
        }
        Give told = lineAt(line);
        if (told == null) {
            return MISSING;
        }
        return isOfSort(told, k) ? told.x : OTHER_SORT;
    }

    // ---- helpers

    private static boolean isWithin(int v, int least, int most) {
        return v >= least && v <= most;
    }

    private static boolean isName(int name) {
        return isWithin(name, 0, NAMES - 1);
    }

    private static boolean isNameOrNone(int name) {
        return isWithin(name, NONE, NAMES - 1);
    }

    private static int bit(boolean b) {
        return b ? 1 : 0;
    }

    private static boolean hasBit(int bits, int i) {
        return (bits >> i & 1) == 1;
    }

    /** Where a field of an object (or of a kind, by kinds) stands; NONE if there is no such. */
    private static int fieldPlace(int object, int field) {
        if (!isWithin(object, 0, MOST_OBJECTS - 1) || !isWithin(field, 0, FIELDS - 1)) {
            return NONE;
        }
        return NAMES + object * FIELDS + field;
    }

    private Give lineAt(int i) {
        return i >= 0 && i < lineCount && i < lines.length ? lines[i] : null;
    }

    private Sheet sheetAt(int i) {
        return i >= 0 && i < sheets.length ? sheets[i] : null;
    }

    private Give lineOfTape(int sort) {
        int x = tape.letterOf(sort, 'x');
        int y = tape.letterOf(sort, 'y');
        int number = tape.numberOf(sort);
        switch (sort) {
            case CAST: return new Cast(x, y, number);
            case READ: return new Read(x, y, number);
            case WRITE: return new Write(x, number, y);
            case CALL: return new Call(x, y, number, tape.letterOf(sort, 'z'));
            case MAKE: return new Make(x, number, kinds.makeObject(number));
            default: return new Give(x, y, NONE);
        }
    }

    private void forgetSets() {
        objectSets.isFilled = false;
        kindSets.isFilled = false;
    }

    private int linesOn() {
        int on = 0;
        for (Give told : lines) {
            if (told != null && told.isOn) {
                on++;
            }
        }
        return on;
    }

    private int workOfLinesOn() {
        int sum = 0;
        for (Give told : lines) {
            if (told != null && told.isOn) {
                sum += told.work();
            }
        }
        return sum;
    }

    private int objectsOn() {
        int objects = 0;
        for (Give told : lines) {
            if (told instanceof Make && told.isOn) {
                objects |= 1 << told.object();
            }
        }
        return objects;
    }

    private static int aimsOf(Give call, Sets sets) {
        int receivers = sets.heldAt(call.y);
        int functions = 0;
        for (int o = 0; o < MOST_OBJECTS; o++) {
            int function = hasBit(receivers, o) ? sets.aimOfPoint(o, call.number) : NONE;
            if (function != NONE) {
                functions |= 1 << function;
            }
        }
        return functions;
    }

    /** The names that a name flows to by gives (or that flow to it), itself among them. */
    private int flowFrom(int name, boolean isForward) {
        int reached = 1 << name;
        boolean more = true;
        for (int i = 0; more && i < NAMES; i++) {
            int before = reached;
            for (Give told : lines) {
                if (told != null && told.isOn && told.sort() == GIVE) {
                    int from = isForward ? told.y : told.x;
                    int to = isForward ? told.x : told.y;
                    reached |= hasBit(reached, from) ? 1 << to : 0;
                }
            }
            more = reached != before;
        }
        return reached;
    }

    private boolean isHeldElsewhere(Give make, Sets sets) {
        for (Give told : lines) {
            if (told != null && told.isOn && told.inside != make.inside
                    && hasBit(sets.heldAt(told.x), make.object())) {
                return true;
            }
        }
        return false;
    }

    private static boolean isRace(Give a, Give b, Sets sets) {
        if (a == null || b == null || !a.isOn || !b.isOn || a.thread == b.thread) {
            return false;
        }
        if (!(a instanceof Write) && !(b instanceof Write)) {
            return false;
        }
        if (a.touched() == NONE || b.touched() == NONE || a.number != b.number) {
            return false;
        }
        if (a.lock != 0 && a.lock == b.lock) {
            return false;
        }
        return (sets.heldAt(a.touched()) & sets.heldAt(b.touched())) != 0;
    }

    private static boolean isOfSort(Give told, int sort) {
        switch (sort) {
            case CAST: return told instanceof Cast;
            case READ: return told instanceof Read;
            case WRITE: return told instanceof Write;
            case CALL: return told instanceof Call;
            case MAKE: return told instanceof Make;
            default: return true;
        }
    }

    /** The kinds, what functions they have and how those are named, and the kind of each object. */
    private static final class Kinds {
        private final int[] above = new int[MOST_KINDS];
        private final int[] own = new int[MOST_KINDS * ACTS];
        private final int[] roles = new int[FUNCTIONS * ROLES];
        private final int[] made = new int[MOST_OBJECTS];
        int kindCount;
        int objectCount;

        Kinds() {
            Arrays.fill(above, NONE);
            Arrays.fill(own, NONE);
            Arrays.fill(roles, NONE);
            Arrays.fill(made, NONE);
        }

        boolean isTold(int kind) {
            return kind >= 0 && kind < kindCount;
        }

        boolean isFull() {
            return kindCount < 0 || kindCount >= above.length;
        }

        int tell(int under) {
            if (isFull()) {
                return FULL;
            }
            above[kindCount] = under;
            return kindCount++;
        }

        int setOwn(int kind, int act, int function) {
            int place = kind * ACTS + act;
            if (kind < 0 || act < 0 || act >= ACTS || place < 0 || place >= own.length) {
                return NONE;
            }
            int before = own[place];
            own[place] = function;
            return before;
        }

        /** A kind that is not told yet has nothing above and nothing of its own. */
        int aimOf(int kind, int act) {
            if (act < 0 || act >= ACTS) {
                return NONE;
            }
            int at = kind;
            for (int i = 0; i < MOST_KINDS && at >= 0 && at < above.length; i++) {
                int place = at * ACTS + act;
                if (place < own.length && own[place] != NONE) {
                    return own[place];
                }
                at = above[at];
            }
            return NONE;
        }

        boolean isUnder(int kind, int other) {
            int at = kind;
            for (int i = 0; i < MOST_KINDS && at >= 0 && at < above.length; i++) {
                if (at == other) {
                    return true;
                }
                at = above[at];
            }
            return false;
        }

        void setRole(int function, int role, int name) {
            int i = function * ROLES + role;
            if (isWithin(function, 0, FUNCTIONS - 1) && i >= 0 && i < roles.length) {
                roles[i] = name;
            }
        }

        int nameOf(int function, int role) {
            int i = function * ROLES + role;
            boolean isPlace = isWithin(function, 0, FUNCTIONS - 1) && i >= 0 && i < roles.length;
            return isPlace ? roles[i] : NONE;
        }

        boolean hasRoomForObject() {
            return objectCount >= 0 && objectCount < made.length;
        }

        int makeObject(int kind) {
            if (!hasRoomForObject()) {
                return NONE;
            }
            made[objectCount] = kind;
            return objectCount++;
        }

        boolean isObject(int object) {
            return object >= 0 && object < objectCount;
        }

        int kindOfObject(int object) {
            return object >= 0 && object < made.length ? made[object] : NONE;
        }

        int kindsOf(int objects) {
            int bits = 0;
            for (int o = 0; o < objectCount; o++) {
                if (hasBit(objects, o)) {
                    bits |= 1 << kindOfObject(o);
                }
            }
            return bits;
        }
    }

    /** The bytes that are to become a line. */
    private static final class Tape {
        private final int[] bytes = new int[MOST_TAPE];
        int size;

        boolean hasRoom(int n) {
            return n <= bytes.length - size;
        }

        void push(int value) {
            if (size >= 0 && size < bytes.length) {
                bytes[size] = value & 255;
                size++;
            }
        }

        void clear() {
            size = 0;
        }

        int byteAt(int i) {
            return i >= 0 && i < size && i < bytes.length ? bytes[i] : NONE;
        }

        /** How a line of a sort looks: x, y, z stand for a letter, 7 and 2 for a number up to that. */
        private static String formOf(int sort) {
            switch (sort) {
                case CAST: return "x=y/7";
                case READ: return "x=y.2";
                case WRITE: return "x.2=y";
                case CALL: return "x=y:2(z)";
                case MAKE: return "x=!7";
                default: return "x=y";
            }
        }

        private static boolean suits(int value, char sign) {
            switch (sign) {
                case 'x':
                case 'y':
                case 'z': return isWithin(value, 'a', 'a' + NAMES - 1);
                case '7': return isWithin(value, '0', '7');
                case '2': return isWithin(value, '0', '2');
                default: return value == sign;
            }
        }

        /** How many bytes, from the first on, go along with a form. */
        private int matched(String form) {
            int i = 0;
            while (i < form.length() && i < size && suits(byteAt(i), form.charAt(i))) {
                i++;
            }
            return i;
        }

        /** The sort of the line that stands here, or NONE. */
        int sortTold() {
            for (int sort = 0; sort < SORTS; sort++) {
                String form = formOf(sort);
                if (size == form.length() && matched(form) == size) {
                    return sort;
                }
            }
            return NONE;
        }

        /** Of what is no line: the first place where no form goes on. */
        int faultPlace() {
            int place = 0;
            for (int sort = 0; sort < SORTS; sort++) {
                place = Math.max(place, matched(formOf(sort)));
            }
            return place;
        }

        int letterOf(int sort, char sign) {
            int i = formOf(sort).indexOf(sign);
            return i < 0 ? NONE : byteAt(i) - 'a';
        }

        int numberOf(int sort) {
            String form = formOf(sort);
            int i = Math.max(form.indexOf('7'), form.indexOf('2'));
            return i < 0 ? NONE : byteAt(i) - '0';
        }
    }

    private static class Give {
        final int x;
        final int y;
        final int number;
        int thread;
        int lock;
        int inside = NONE;
        boolean isOn = true;

        Give(int x, int y, int number) {
            this.x = x;
            this.y = y;
            this.number = number;
        }

        int sort() {
            return GIVE;
        }

        int work() {
            return 1;
        }

        int argument() {
            return NONE;
        }

        int object() {
            return NONE;
        }

        /** The name whose objects' fields the line touches by itself. */
        int touched() {
            return NONE;
        }

        void allow(Sets sets) {
            sets.add(x, sets.heldAt(y));
        }

        boolean act(Machine machine) {
            machine.put(x, machine.objectAt(y));
            return true;
        }
    }

    private static final class Cast extends Give {
        Cast(int x, int y, int kind) {
            super(x, y, kind);
        }

        int sort() {
            return CAST;
        }

        int work() {
            return super.work() + 1;
        }

        void allow(Sets sets) {
            sets.add(x, sets.partUnder(sets.heldAt(y), number));
        }

        boolean act(Machine machine) {
            int object = machine.objectAt(y);
            if (object != NONE && !machine.isObjectUnder(object, number)) {
                return false;
            }
            machine.put(x, object);
            return true;
        }
    }

    private static class Read extends Give {
        Read(int x, int y, int number) {
            super(x, y, number);
        }

        int sort() {
            return READ;
        }

        int work() {
            return super.work() + 2;
        }

        int touched() {
            return y;
        }

        void allow(Sets sets) {
            int bases = sets.heldAt(y);
            for (int o = 0; o < MOST_OBJECTS; o++) {
                if (hasBit(bases, o)) {
                    sets.add(x, sets.heldAt(fieldPlace(o, number)));
                }
            }
        }

        boolean act(Machine machine) {
            int base = machine.objectAt(y);
            if (base == NONE) {
                return false;
            }
            machine.put(x, machine.objectAt(fieldPlace(base, number)));
            return true;
        }
    }

    private static final class Write extends Read {
        Write(int x, int field, int y) {
            super(x, y, field);
        }

        int sort() {
            return WRITE;
        }

        int work() {
            return 2 * super.work();
        }

        int touched() {
            return x;
        }

        void allow(Sets sets) {
            int bases = sets.heldAt(x);
            for (int o = 0; o < MOST_OBJECTS; o++) {
                if (hasBit(bases, o)) {
                    sets.add(fieldPlace(o, number), sets.heldAt(y));
                }
            }
        }

        boolean act(Machine machine) {
            int base = machine.objectAt(x);
            if (base == NONE) {
                return false;
            }
            machine.put(fieldPlace(base, number), machine.objectAt(y));
            return true;
        }
    }

    private static final class Call extends Read {
        private final int z;

        Call(int x, int y, int act, int z) {
            super(x, y, act);
            this.z = z;
        }

        int sort() {
            return CALL;
        }

        int work() {
            return super.work() + 3;
        }

        int argument() {
            return z;
        }

        int touched() {
            return NONE;
        }

        void allow(Sets sets) {
            int receivers = sets.heldAt(y);
            for (int o = 0; o < MOST_OBJECTS; o++) {
                int function = hasBit(receivers, o) ? sets.aimOfPoint(o, number) : NONE;
                if (function != NONE) {
                    sets.add(sets.kinds.nameOf(function, SELF), 1 << o);
                    sets.add(sets.kinds.nameOf(function, GIVEN), sets.heldAt(z));
                    sets.add(x, sets.heldAt(sets.kinds.nameOf(function, BACK)));
                }
            }
        }

        boolean act(Machine machine) {
            Kinds kinds = machine.kinds;
            int receiver = machine.objectAt(y);
            int function = kinds.aimOf(kinds.kindOfObject(receiver), number);
            if (function == NONE) {
                return false;
            }
            // SELF may be z, so what z has is looked up first.
            int passed = machine.objectAt(z);
            machine.put(kinds.nameOf(function, SELF), receiver);
            machine.put(kinds.nameOf(function, GIVEN), passed);
            int back = kinds.nameOf(function, BACK);
            if (back != NONE) {
                machine.put(x, machine.objectAt(back));
            }
            return true;
        }
    }

    private static final class Make extends Give {
        private final int object;

        Make(int x, int kind, int object) {
            super(x, NONE, kind);
            this.object = object;
        }

        int sort() {
            return MAKE;
        }

        int object() {
            return object;
        }

        void allow(Sets sets) {
            sets.add(x, 1 << (sets.isByKinds ? number : object));
        }

        boolean act(Machine machine) {
            machine.put(x, object);
            return true;
        }
    }

    /** What each place holds at the least, found in rounds; by kinds, a point is a kind. */
    private static final class Sets {
        final Kinds kinds;
        final boolean isByKinds;
        private final Give[] lines;
        boolean isFilled;
        int rounds;
        private final int[] held = new int[PLACES];
        private final int[] added = new int[PLACES];
        private final int[] firstRounds = new int[NAMES * MOST_OBJECTS];

        Sets(Kinds kinds, Give[] lines, boolean isByKinds) {
            this.kinds = kinds;
            this.lines = lines;
            this.isByKinds = isByKinds;
        }

        Sets filled() {
            if (!isFilled) {
                fill(NONE);
                isFilled = true;
            }
            return this;
        }

        /** Does all rounds anew; one line may be left out (NONE: none is). */
        void fill(int without) {
            Arrays.fill(held, 0);
            Arrays.fill(added, 0);
            rounds = 0;
            boolean more = true;
            for (int round = 1; more && round <= MOST_ROUNDS; round++) {
                for (int i = 0; i < lines.length; i++) {
                    Give told = lines[i];
                    if (i != without && told != null && told.isOn) {
                        told.allow(this);
                    }
                }
                more = settle(round);
            }
        }

        /** What was added becomes held only here, as a round's lines all see the sets as it began. */
        private boolean settle(int round) {
            boolean more = false;
            for (int place = 0; place < held.length && place < added.length; place++) {
                int fresh = added[place] & ~held[place];
                if (fresh != 0) {
                    held[place] |= fresh;
                    noteRound(place, fresh, round);
                    more = true;
                }
            }
            if (more) {
                rounds = round;
            }
            return more;
        }

        private void noteRound(int place, int fresh, int round) {
            for (int o = 0; o < MOST_OBJECTS; o++) {
                int i = place * MOST_OBJECTS + o;
                if (hasBit(fresh, o) && i >= 0 && i < firstRounds.length) {
                    firstRounds[i] = round;
                }
            }
        }

        int heldAt(int place) {
            return place >= 0 && place < held.length ? held[place] : 0;
        }

        void add(int place, int points) {
            if (place >= 0 && place < added.length) {
                added[place] |= points;
            }
        }

        int roundsTo(int object, int name) {
            int i = name * MOST_OBJECTS + object;
            boolean isPlace = i >= 0 && i < firstRounds.length;
            return isPlace && hasBit(heldAt(name), object) ? firstRounds[i] : NONE;
        }

        private int kindOfPoint(int point) {
            return isByKinds ? point : kinds.kindOfObject(point);
        }

        int aimOfPoint(int point, int act) {
            return kinds.aimOf(kindOfPoint(point), act);
        }

        int partUnder(int points, int kind) {
            int part = 0;
            for (int p = 0; p < MOST_OBJECTS; p++) {
                if (hasBit(points, p) && kinds.isUnder(kindOfPoint(p), kind)) {
                    part |= 1 << p;
                }
            }
            return part;
        }

        int heldInFieldsOf(int points) {
            int all = 0;
            for (int p = 0; p < MOST_OBJECTS; p++) {
                for (int f = 0; f < FIELDS && hasBit(points, p); f++) {
                    all |= heldAt(fieldPlace(p, f));
                }
            }
            return all;
        }
    }

    /** The plain machine: each place has one object or none. */
    private static final class Machine {
        final Kinds kinds;
        private final int[] has = new int[PLACES];
        private final int[] had = new int[PLACES];

        Machine(Kinds kinds) {
            this.kinds = kinds;
            Arrays.fill(has, NONE);
        }

        void begin() {
            Arrays.fill(has, NONE);
            Arrays.fill(had, 0);
        }

        int objectAt(int place) {
            return place >= 0 && place < has.length ? has[place] : NONE;
        }

        int hadAt(int place) {
            return place >= 0 && place < had.length ? had[place] : 0;
        }

        void put(int place, int object) {
            if (place < 0 || place >= has.length || place >= had.length) {
                return;
            }
            has[place] = object;
            if (object != NONE) {
                had[place] |= 1 << object;
            }
        }

        boolean isObjectUnder(int object, int kind) {
            return kinds.isUnder(kinds.kindOfObject(object), kind);
        }
    }

    /** A row of the host's numbers, or a missing one. */
    private static final class Sheet {
        final int[] items = new int[MOST_ITEMS];
        int sort = NONE;
        private int size;

        boolean isMissing() {
            return sort == NONE;
        }

        void become(int newSort, int n) {
            sort = newSort;
            size = newSort == NONE ? 0 : n;
            Arrays.fill(items, 0);
        }

        /** By subtraction, as a sum of two large numbers would wrap round. */
        boolean covers(int from, int n) {
            return from >= 0 && n >= 0 && from <= size && n <= size - from;
        }

        int itemAt(int i) {
            return i >= 0 && i < size && i < items.length ? items[i] : 0;
        }

        void put(int i, int v) {
            if (i < 0 || i >= size || i >= items.length) {
                return;
            }
            if (sort == 0) {
                items[i] = (byte) v;
            } else if (sort == 1) {
                items[i] = (short) v;
            } else {
                items[i] = v;
            }
        }
    }
}
