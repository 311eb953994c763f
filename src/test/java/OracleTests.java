import java.util.Random;

/** Runs of calls by fixed seeds: each answer of the program against the oracle's. */
public final class OracleTests {
    private static final int RUNS = 300;
    private static final int MOST_CALLS = 512;
    /** A run, and what each name had and has by it and may hold. */
    private static final int MOST_CALLS_OF_A_STEP = 61;
    private static final Check c = new Check("OracleTests");

    private final Random random;
    private final int run;
    private final int names;
    private final int kinds;
    private final PointHouse house = new PointHouse();
    private final Oracle oracle = new Oracle();
    private int calls;

    /** Few names and kinds let the lines of a run meet; each run has other numbers of them. */
    private OracleTests(int run) {
        this.run = run;
        this.random = new Random(run);
        this.names = 3 + random.nextInt(18);
        this.kinds = 1 + random.nextInt(8);
    }

    public static void main(String[] args) {
        for (int run = 0; run < RUNS; run++) {
            new OracleTests(run).play();
        }
        c.end();
    }

    private void play() {
        while (calls + MOST_CALLS_OF_A_STEP <= MOST_CALLS) {
            if (calls < 200 && below(4) != 0) {
                tellSomething();
            } else {
                ask(below(35));
            }
        }
    }

    private int below(int n) {
        return random.nextInt(Math.max(1, n));
    }

    /** Mostly within 0 .. n - 1; now and then just outside, or far. */
    private int near(int n) {
        int[] odd = {-2, -1, n, n + 1, Integer.MIN_VALUE, Integer.MAX_VALUE, n / 2, 100};
        return below(12) == 0 ? odd[below(odd.length)] : below(n);
    }

    private int nearNone(int n) {
        return below(4) == 0 ? -1 : near(n);
    }

    private char letter() {
        return (char) ('a' + below(Math.min(20, names)));
    }

    private String text() {
        String x = letter() + "";
        String y = letter() + "";
        switch (below(7)) {
            case 0: return x + "=" + y;
            case 1: return x + "=" + y + "/" + below(kinds);
            case 2: return x + "=" + y + "." + below(3);
            case 3: return x + "." + below(3) + "=" + y;
            case 4: return x + "=" + y + ":" + below(3) + "(" + letter() + ")";
            default: return x + "=!" + below(kinds);
        }
    }

    private String spoilt(String text) {
        String signs = "at u=.:/!()0378\u00e1";
        StringBuilder all = new StringBuilder(text);
        char sign = signs.charAt(below(signs.length()));
        switch (below(3)) {
            case 0: all.setCharAt(below(text.length()), sign); break;
            case 1: all.insert(below(text.length() + 1), sign); break;
            default: all.setLength(below(text.length()));
        }
        return all.toString();
    }

    /** Tells a line or something of kinds. */
    private void tellSomething() {
        if (below(4) == 0) {
            ask(new int[] {0, 1, 3, 10}[below(4)]);
            return;
        }
        String text = below(8) == 0 ? spoilt(text()) : text();
        long bytes = 0;
        int n = Math.min(8, text.length());
        for (int i = n - 1; i >= 0; i--) {
            bytes = bytes << 8 | text.charAt(i);
        }
        bytes |= n < 8 && below(2) == 0 ? -1L << 8 * n : 0;
        due("feed " + text, house.feed(n, bytes), oracle.feed(n, bytes));
        int thread = near(3);
        int lock = near(4);
        due("line " + text, house.line(thread, lock), oracle.line(thread, lock));
    }

    /** Each answer is that of one call to the house. */
    private void due(String call, long got, long want) {
        calls++;
        c.due("run " + run + ": " + call, got, want);
    }

    private void ask(int which) {
        if (which < 11) {
            askOfLines(which);
        } else if (which < 26) {
            askOfSets(which);
        } else {
            askOfMachine(which);
        }
    }

    private void askOfLines(int which) {
        int a = near(8);
        int b = near(3);
        int line = near(40);
        int f = nearNone(6);
        int self = nearNone(names);
        int given = nearNone(names);
        int back = nearNone(names);
        long bytes = random.nextLong();
        switch (which) {
            case 0:
                a = nearNone(oracle.count(0));
                due("kind " + a, house.kind(a), oracle.kind(a));
                break;
            case 1: due("has", house.has(a, b, f), oracle.has(a, b, f)); break;
            case 2: due("aim", house.aim(a, b), oracle.aim(a, b)); break;
            case 3: due("names", house.names(f, self, given, back), oracle.names(f, self, given, back)); break;
            case 4: due("under", house.under(a, self), oracle.under(a, self)); break;
            case 5: due("feed", house.feed(a, bytes), oracle.feed(a, bytes)); break;
            case 6: due("line", house.line(b, b), oracle.line(b, b)); break;
            case 7: due("lineTold", house.lineTold(line, line % 12), oracle.lineTold(line, line % 12)); break;
            case 8: due("lineTold", house.lineTold(line, a + b), oracle.lineTold(line, a + b)); break;
            case 9:
                a = near(2);
                due("turn", house.turn(line, a), oracle.turn(line, a));
                break;
            default: due("in", house.in(line, f), oracle.in(line, f));
        }
    }

    private void askOfSets(int which) {
        int name = near(Math.min(20, names));
        int other = near(Math.min(20, names));
        int object = near(oracle.count(3));
        int line = near(oracle.count(1));
        int what = near(3);
        int budget = below(3) == 0 ? near(100000) : below(8) * oracle.count(5) + below(3) - 1;
        switch (which) {
            case 11: due("holds", house.holds(name), oracle.holds(name)); break;
            case 12: due("field", house.field(object, what), oracle.field(object, what)); break;
            case 13: due("still", house.still(), oracle.still()); break;
            case 14: due("way", house.way(object, name), oracle.way(object, name)); break;
            case 15: due("byKinds", house.byKinds(name), oracle.byKinds(name)); break;
            case 16: due("tooMuch", house.tooMuch(name), oracle.tooMuch(name)); break;
            case 17: due("ask", house.ask(name, budget, what), oracle.ask(name, budget, what)); break;
            case 18: due("cast", house.cast(line), oracle.cast(line)); break;
            case 19: due("aims", house.aims(line), oracle.aims(line)); break;
            case 20: due("dead", house.dead(), oracle.dead()); break;
            case 21: due("cut", house.cut(object, name), oracle.cut(object, name)); break;
            case 22: due("same", house.same(name, other), oracle.same(name, other)); break;
            case 23: due("melted", house.melted(name), oracle.melted(name)); break;
            case 24: due("leaves", house.leaves(), oracle.leaves()); break;
            default: askOfRaces();
        }
    }

    private void askOfRaces() {
        int all = house.race(-1);
        int i = near(all);
        due("race -1", all, oracle.race(-1));
        due("race " + i, house.race(i), oracle.race(i));
    }

    private void askOfMachine(int which) {
        int name = near(Math.min(20, names));
        int a = near(4);
        int b = near(4);
        int i = near(20);
        int j = near(20);
        int n = near(12);
        int sort = nearNone(3);
        int line = near(oracle.count(1));
        switch (which) {
            case 26: run(); break;
            case 27: due("seen", house.seen(name), oracle.seen(name)); break;
            case 28: due("now", house.now(name), oracle.now(name)); break;
            case 29: due("count", house.count(n), oracle.count(n)); break;
            case 30:
                i = near(41);
                due("sheet", house.sheet(a, sort, i), oracle.sheet(a, sort, i));
                break;
            case 31: due("cell", house.cell(a, i, j * 7919), oracle.cell(a, i, j * 7919)); break;
            case 32: due("copy", house.copy(a, i, b, j, n), oracle.copy(a, i, b, j, n)); break;
            case 33: taped(); break;
            default: due("taken", house.taken(line, n % 7), oracle.taken(line, n % 7));
        }
    }

    /** Of each sort in turn, so that the sheet's own is among them; of none at all, too. */
    private void taped() {
        int sheet = near(4);
        int from = near(20);
        int n = below(3) == 0 ? 0 : near(12);
        for (int sort = -1; sort < 4; sort++) {
            String call = "taped " + sheet + " " + sort + " " + from + " " + n;
            due(call, house.taped(sheet, sort, from, n), oracle.taped(sheet, sort, from, n));
        }
    }

    /** A run, and that its true points are among the maybes. */
    private void run() {
        int seed = near(100000);
        int n = near(501);
        int did = house.run(seed, n);
        due("run", did, oracle.run(seed, n));
        for (int name = 0; did >= 0 && name < 20; name++) {
            int had = house.seen(name);
            due("seen", had, oracle.seen(name));
            due("now", house.now(name), oracle.now(name));
            due("a true point is a maybe", had & ~house.holds(name), 0);
        }
    }
}
