import java.util.ArrayList;
import java.util.List;
import java.util.Map;
import java.util.Set;
import java.util.TreeMap;
import java.util.TreeSet;
import java.util.regex.Pattern;

/**
 * The document once more, by other means than the program: a text for the tape, patterns for its lines, maps of
 * sets for what is held, paths for what melts. Slow, and only for comparing.
 */
final class Oracle {
    private static final String[] PATTERNS = {"[a-t]=[a-t]", "[a-t]=[a-t]/[0-7]", "[a-t]=[a-t]\\.[0-2]",
        "[a-t]\\.[0-2]=[a-t]", "[a-t]=[a-t]:[0-2]\\([a-t]\\)", "[a-t]=![0-7]"};
    private static final int[] WORK = {1, 2, 3, 6, 6, 1};
    private static final int[] ABOVE = {-1, 0, 0, 2, 2, 0};

    static final class Line {
        String text;
        int sort;
        int thread;
        int lock;
        int in = -1;
        int object = -1;
        boolean on = true;

        int letter(int i) {
            return text.charAt(i) - 'a';
        }

        int digit(int i) {
            return text.charAt(i) - '0';
        }

        int x() {
            return letter(0);
        }

        int y() {
            return sort == 5 ? -1 : letter(sort == 3 ? 4 : 2);
        }

        int number() {
            return sort == 0 ? -1 : digit(sort == 3 ? 2 : sort == 5 ? 3 : 4);
        }

        int z() {
            return sort == 4 ? letter(6) : -1;
        }
    }

    private final List<Integer> above = new ArrayList<>();
    private final Map<String, Integer> own = new TreeMap<>();
    private final int[][] names = new int[6][3];
    private final List<Line> lines = new ArrayList<>();
    private final List<Line> makes = new ArrayList<>();
    private StringBuilder tape = new StringBuilder();
    private final int[][] sheets = new int[4][];
    private final int[] sorts = {-1, -1, -1, -1};
    private final Map<String, Integer> has = new TreeMap<>();
    private final Map<String, Set<Integer>> had = new TreeMap<>();

    Oracle() {
        for (int[] roles : names) {
            java.util.Arrays.fill(roles, -1);
        }
    }

    private static boolean in(long v, int low, int high) {
        return low <= v && v <= high;
    }

    private boolean isKind(int k) {
        return in(k, 0, above.size() - 1);
    }

    private boolean isLine(int l) {
        return in(l, 0, lines.size() - 1);
    }

    int kind(int over) {
        if (over != -1 && !isKind(over)) {
            return -2;
        }
        if (above.size() == 8) {
            return -4;
        }
        above.add(over);
        return above.size() - 1;
    }

    int has(int kind, int act, int function) {
        if (!isKind(kind) || !in(act, 0, 2) || !in(function, -1, 5)) {
            return -5;
        }
        Integer before = own.put(kind + "/" + act, function);
        return before == null ? -1 : before;
    }

    private int aimOf(int kind, int act) {
        if (!isKind(kind)) {
            return -1;
        }
        int mine = own.getOrDefault(kind + "/" + act, -1);
        return mine != -1 ? mine : aimOf(above.get(kind), act);
    }

    int aim(int kind, int act) {
        return !isKind(kind) || !in(act, 0, 2) ? -2 : aimOf(kind, act);
    }

    int names(int function, int self, int given, int back) {
        if (!in(function, 0, 5) || !in(self, -1, 19) || !in(given, -1, 19) || !in(back, -1, 19)) {
            return -2;
        }
        names[function] = new int[] {self, given, back};
        return 1;
    }

    private boolean isUnder(int kind, int other) {
        return kind == other || isKind(kind) && above.get(kind) != -1 && isUnder(above.get(kind), other);
    }

    int under(int kind, int other) {
        return !isKind(kind) || !isKind(other) ? -2 : isUnder(kind, other) ? 1 : 0;
    }

    int feed(int n, long bytes) {
        if (!in(n, 1, 8)) {
            return -2;
        }
        if (tape.length() + n > 20) {
            return -4;
        }
        for (int i = 0; i < n; i++) {
            tape.append((char) (bytes >> 8 * i & 255));
        }
        return tape.length();
    }

    /** The longest piece from the first byte on that some line goes on with. */
    private static int faultOf(String text) {
        for (int size = text.length(); size > 0; size--) {
            for (String pattern : PATTERNS) {
                var matcher = Pattern.compile(pattern, Pattern.DOTALL).matcher(text.substring(0, size));
                if (matcher.matches() || matcher.hitEnd()) {
                    return size;
                }
            }
        }
        return 0;
    }

    int line(int thread, int lock) {
        if (!in(thread, 0, 2) || !in(lock, 0, 3)) {
            return -2;
        }
        if (lines.size() == 40) {
            return -4;
        }
        Line line = new Line();
        line.text = tape.toString();
        line.sort = -1;
        for (int sort = 0; sort < 6; sort++) {
            if (line.text.matches(PATTERNS[sort])) {
                line.sort = sort;
            }
        }
        if (line.sort == 5 && makes.size() == 16) {
            return -4;
        }
        tape = new StringBuilder();
        if (line.sort == -1) {
            return -100 - faultOf(line.text);
        }
        line.thread = thread;
        line.lock = lock;
        if (line.sort == 5) {
            line.object = makes.size();
            makes.add(line);
        }
        lines.add(line);
        return lines.size() - 1;
    }

    int lineTold(int l, int what) {
        if (!isLine(l) || !in(what, 0, 10)) {
            return -2;
        }
        Line line = lines.get(l);
        return new int[] {line.sort, line.x(), line.y(), line.number(), line.z(), line.thread, line.lock,
            line.on ? 1 : 0, line.in, WORK[line.sort], line.object}[what];
    }

    int turn(int l, int on) {
        if (!isLine(l) || !in(on, 0, 1)) {
            return -2;
        }
        int before = lines.get(l).on ? 1 : 0;
        lines.get(l).on = on == 1;
        return before;
    }

    int in(int l, int function) {
        if (!isLine(l) || !in(function, -1, 5)) {
            return -5;
        }
        int before = lines.get(l).in;
        lines.get(l).in = function;
        return before;
    }

    // Points are objects, or kinds; places are "3" (a name) or "o.f" (a field).

    private int kindOf(int point, boolean byKinds) {
        return byKinds ? point : makes.get(point).number();
    }

    private static Set<Integer> at(Map<String, Set<Integer>> sets, Object place) {
        return sets.getOrDefault(String.valueOf(place), Set.of());
    }

    private static void put(Map<String, Set<Integer>> sets, Object place, Set<Integer> more) {
        if (!more.isEmpty()) {
            sets.computeIfAbsent(String.valueOf(place), p -> new TreeSet<>()).addAll(more);
        }
    }

    private void allow(Line l, Map<String, Set<Integer>> now, Map<String, Set<Integer>> next, boolean byKinds) {
        switch (l.sort) {
            case 0 -> put(next, l.x(), at(now, l.y()));
            case 1 -> {
                Set<Integer> fit = new TreeSet<>(at(now, l.y()));
                fit.removeIf(p -> !isUnder(kindOf(p, byKinds), l.number()));
                put(next, l.x(), fit);
            }
            case 2 -> at(now, l.y()).forEach(p -> put(next, l.x(), at(now, p + "." + l.number())));
            case 3 -> at(now, l.x()).forEach(p -> put(next, p + "." + l.number(), at(now, l.y())));
            case 4 -> at(now, l.y()).forEach(p -> {
                int f = aimOf(kindOf(p, byKinds), l.number());
                if (f != -1 && names[f][0] != -1) {
                    put(next, names[f][0], Set.of(p));
                }
                if (f != -1 && names[f][1] != -1) {
                    put(next, names[f][1], at(now, l.z()));
                }
                if (f != -1 && names[f][2] != -1) {
                    put(next, l.x(), at(now, names[f][2]));
                }
            });
            default -> put(next, l.x(), Set.of(byKinds ? l.number() : l.object));
        }
    }

    /** The sets behind each round, the first being that of no round; the last is still. */
    private List<Map<String, Set<Integer>>> rounds(boolean byKinds) {
        List<Map<String, Set<Integer>>> all = new ArrayList<>();
        Map<String, Set<Integer>> now = new TreeMap<>();
        Map<String, Set<Integer>> before = null;
        while (!now.equals(before)) {
            all.add(now);
            Map<String, Set<Integer>> next = new TreeMap<>();
            now.forEach((place, points) -> next.put(place, new TreeSet<>(points)));
            for (Line l : lines) {
                if (l.on) {
                    allow(l, now, next, byKinds);
                }
            }
            before = now;
            now = next;
        }
        return all;
    }

    private Map<String, Set<Integer>> last(boolean byKinds) {
        var all = rounds(byKinds);
        return all.get(all.size() - 1);
    }

    private static int bits(Set<Integer> points) {
        int sum = 0;
        for (int p : points) {
            sum += 1 << p;
        }
        return sum;
    }

    private boolean isObject(int o) {
        return in(o, 0, makes.size() - 1);
    }

    int holds(int name) {
        return in(name, 0, 19) ? bits(at(last(false), name)) : -2;
    }

    int field(int object, int field) {
        return isObject(object) && in(field, 0, 2) ? bits(at(last(false), object + "." + field)) : -2;
    }

    int still() {
        return rounds(false).size() - 1;
    }

    int way(int object, int name) {
        if (!isObject(object) || !in(name, 0, 19)) {
            return -2;
        }
        var all = rounds(false);
        for (int i = 0; i < all.size(); i++) {
            if (at(all.get(i), name).contains(object)) {
                return i;
            }
        }
        return -1;
    }

    int byKinds(int name) {
        return in(name, 0, 19) ? bits(at(last(true), name)) : -2;
    }

    int tooMuch(int name) {
        if (!in(name, 0, 19)) {
            return -2;
        }
        Set<Integer> told = new TreeSet<>(at(last(true), name));
        at(last(false), name).forEach(o -> told.remove(makes.get(o).number()));
        return told.size();
    }

    private int price() {
        return lines.stream().filter(l -> l.on).mapToInt(l -> WORK[l.sort]).sum();
    }

    int ask(int name, int budget, int what) {
        if (!in(name, 0, 19) || !in(budget, 0, 99999) || !in(what, 0, 2)) {
            return -2;
        }
        int rounds = 0;
        int paid = 0;
        while (rounds < still() && paid + price() <= budget) {
            rounds++;
            paid += price();
        }
        boolean spent = rounds < still();
        if (what != 0) {
            return what == 2 ? paid : spent ? 1 : 0;
        }
        int on = 0;
        for (Line l : makes) {
            on += l.on ? 1 << l.object : 0;
        }
        return spent ? on : holds(name);
    }

    int cast(int l) {
        if (!isLine(l)) {
            return -2;
        }
        Line line = lines.get(l);
        if (line.sort != 1) {
            return -3;
        }
        Set<Integer> all = at(last(false), line.y());
        long good = all.stream().filter(o -> isUnder(kindOf(o, false), line.number())).count();
        return good == all.size() ? 0 : good == 0 ? 2 : 1;
    }

    private Set<Integer> aimsOf(Line line) {
        Set<Integer> functions = new TreeSet<>();
        at(last(false), line.y()).forEach(o -> functions.add(aimOf(kindOf(o, false), line.number())));
        functions.remove(-1);
        return functions;
    }

    int aims(int l) {
        return !isLine(l) ? -2 : lines.get(l).sort != 4 ? -3 : bits(aimsOf(lines.get(l)));
    }

    int dead() {
        Set<Integer> functions = new TreeSet<>(Set.of(0, 1, 2, 3, 4, 5));
        for (Line l : lines) {
            if (l.on && l.sort == 4) {
                functions.removeAll(aimsOf(l));
            }
        }
        return bits(functions);
    }

    long cut(int object, int name) {
        if (!isObject(object) || !in(name, 0, 19)) {
            return -4611686018427387904L;
        }
        long all = 0;
        for (int i = 0; i < lines.size() && at(last(false), name).contains(object); i++) {
            if (lines.get(i).on) {
                lines.get(i).on = false;
                all |= at(last(false), name).contains(object) ? 0 : 1L << i;
                lines.get(i).on = true;
            }
        }
        return all;
    }

    int same(int a, int b) {
        if (!in(a, 0, 19) || !in(b, 0, 19)) {
            return -2;
        }
        var sets = last(false);
        return at(sets, a).size() == 1 && at(sets, a).equals(at(sets, b)) ? 1 : 0;
    }

    /** By all paths of gives, closed step by step (Warshall). */
    int melted(int name) {
        if (!in(name, 0, 19)) {
            return -2;
        }
        boolean[][] flows = new boolean[20][20];
        lines.stream().filter(l -> l.on && l.sort == 0).forEach(l -> flows[l.y()][l.x()] = true);
        for (int via = 0; via < 20; via++) {
            for (int from = 0; from < 20; from++) {
                for (int to = 0; to < 20; to++) {
                    flows[from][to] |= flows[from][via] && flows[via][to];
                }
            }
        }
        for (int other = 0; other < name; other++) {
            if (flows[name][other] && flows[other][name]) {
                return other;
            }
        }
        return name;
    }

    int leaves() {
        var sets = last(false);
        Set<Integer> out = new TreeSet<>();
        List<Integer> todo = new ArrayList<>();
        for (Line l : lines) {
            if (l.on) {
                at(sets, l.x()).stream().filter(o -> makes.get(o).in != l.in).forEach(todo::add);
            }
        }
        while (!todo.isEmpty()) {
            int o = todo.remove(todo.size() - 1);
            if (out.add(o)) {
                for (int f = 0; f < 3; f++) {
                    todo.addAll(at(sets, o + "." + f));
                }
            }
        }
        return bits(out);
    }

    private List<Integer> races() {
        var sets = last(false);
        List<Integer> all = new ArrayList<>();
        for (Line a : lines) {
            for (Line b : lines) {
                int i = lines.indexOf(a);
                int j = lines.indexOf(b);
                boolean ready = i < j && a.on && b.on && a.thread != b.thread && a.sort + b.sort >= 5
                    && in(a.sort, 2, 3) && in(b.sort, 2, 3) && a.number() == b.number()
                    && (a.lock == 0 || b.lock == 0 || a.lock != b.lock);
                if (ready) {
                    Set<Integer> both = new TreeSet<>(at(sets, a.sort == 2 ? a.y() : a.x()));
                    both.retainAll(at(sets, b.sort == 2 ? b.y() : b.x()));
                    if (!both.isEmpty()) {
                        all.add(100 * i + j);
                    }
                }
            }
        }
        return all;
    }

    int race(int i) {
        List<Integer> all = races();
        return i == -1 ? all.size() : in(i, 0, all.size() - 1) ? all.get(i) : -1;
    }

    private Integer has(Object place) {
        return has.get(String.valueOf(place));
    }

    private void give(Object place, Integer object) {
        has.remove(String.valueOf(place));
        if (object != null) {
            has.put(String.valueOf(place), object);
            put(had, place, Set.of(object));
        }
    }

    private boolean step(Line l) {
        Integer of = l.sort == 5 ? Integer.valueOf(l.object) : has(l.sort == 3 ? l.x() : l.y());
        if (l.sort >= 2 && of == null) {
            return false;
        }
        switch (l.sort) {
            case 1:
                if (of != null && !isUnder(kindOf(of, false), l.number())) {
                    return false;
                }
                give(l.x(), of);
                return true;
            case 2:
                give(l.x(), has(of + "." + l.number()));
                return true;
            case 3:
                give(of + "." + l.number(), has(l.y()));
                return true;
            case 4:
                return call(l, of);
            default:
                give(l.x(), of);
                return true;
        }
    }

    private boolean call(Line l, int of) {
        int f = aimOf(kindOf(of, false), l.number());
        if (f == -1) {
            return false;
        }
        Integer passed = has(l.z());
        if (names[f][0] != -1) {
            give(names[f][0], of);
        }
        if (names[f][1] != -1) {
            give(names[f][1], passed);
        }
        if (names[f][2] != -1) {
            give(l.x(), has(names[f][2]));
        }
        return true;
    }

    int run(int seed, int n) {
        if (!in(seed, 0, 99999) || !in(n, 0, 500)) {
            return -2;
        }
        if (lines.isEmpty()) {
            return -3;
        }
        has.clear();
        had.clear();
        int done = 0;
        long lot = 1L + seed;
        for (int i = 0; i < n; i++) {
            lot = lot * 48271 % 2147483647;
            Line l = lines.get((int) (lot % lines.size()));
            done += l.on && step(l) ? 1 : 0;
        }
        return done;
    }

    int seen(int name) {
        return in(name, 0, 19) ? bits(at(had, name)) : -2;
    }

    int now(int name) {
        return !in(name, 0, 19) ? -2 : has(name) == null ? -1 : has(name);
    }

    int count(int what) {
        if (!in(what, 0, 5)) {
            return -2;
        }
        int on = (int) lines.stream().filter(l -> l.on).count();
        return new int[] {above.size(), lines.size(), on, makes.size(), tape.length(), price()}[what];
    }

    int sheet(int sheet, int sort, int n) {
        if (!in(sheet, 0, 3) || !in(sort, -1, 2) || sort != -1 && n > 40) {
            return -2;
        }
        if (sort != -1 && n < 0) {
            return -14;
        }
        sheets[sheet] = sort == -1 ? null : new int[n];
        sorts[sheet] = sort;
        return 1;
    }

    int cell(int sheet, int i, int v) {
        if (!in(sheet, 0, 3)) {
            return -2;
        }
        if (sheets[sheet] == null) {
            return -11;
        }
        if (!in(i, 0, sheets[sheet].length - 1)) {
            return -12;
        }
        int cut = sorts[sheet] == 0 ? 24 : sorts[sheet] == 1 ? 16 : 0;
        sheets[sheet][i] = v << cut >> cut;
        return 1;
    }

    private boolean covers(int sheet, int from, int n) {
        return from >= 0 && n >= 0 && (long) from + n <= sheets[sheet].length;
    }

    int copy(int sheet, int i, int other, int j, int n) {
        if (!in(sheet, 0, 3) || !in(other, 0, 3)) {
            return -2;
        }
        if (sheets[sheet] == null || sheets[other] == null) {
            return -11;
        }
        if (sorts[sheet] != sorts[other]) {
            return -13;
        }
        if (!covers(sheet, i, n) || !covers(other, j, n)) {
            return -12;
        }
        int[] before = sheets[sheet].clone();
        for (int k = 0; k < n; k++) {
            sheets[other][j + k] = before[i + k];
        }
        return n;
    }

    int taped(int sheet, int sort, int from, int n) {
        if (!in(sheet, 0, 3) || !in(sort, 0, 2) || !in(n, 0, 20)) {
            return -2;
        }
        if (sheets[sheet] != null && sorts[sheet] != sort) {
            return -13;
        }
        if (sheets[sheet] == null) {
            return -11;
        }
        for (int k = 0; k < n; k++) {
            if (!in((long) from + k, 0, sheets[sheet].length - 1)) {
                return -12;
            }
        }
        if (tape.length() + n > 20) {
            return -4;
        }
        for (int k = 0; k < n; k++) {
            tape.append((char) (sheets[sheet][from + k] & 255));
        }
        return tape.length();
    }

    int taken(int l, int k) {
        if (!in(k, 0, 5)) {
            return -2;
        }
        if (!isLine(l)) {
            return -11;
        }
        for (int sort = lines.get(l).sort; sort != -1; sort = ABOVE[sort]) {
            if (sort == k) {
                return lines.get(l).x();
            }
        }
        return -13;
    }
}
