/** The sentences about the tape and the lines: promises 7 to 11. */
final class EdgesOfLines extends Edges {
    private static final String LETTERS = "abcdefghijklmnopqrst", KINDS = "01234567", SMALL = "012";
    /** What may stand on the tape ahead of its end, and the signs that may come next. */
    private static final String[][] GOES_ON = {
        {"", LETTERS}, {"a", "=."}, {"t=", LETTERS + "!"}, {"a=!", KINDS}, {"a=!0", ""}, {"a=!7", ""},
        {"a=t", "/.:"}, {"a=b/", KINDS}, {"a=b/0", ""}, {"a=b/7", ""}, {"a=b.", SMALL}, {"a=b.0", ""},
        {"a=b.2", ""}, {"a=b:", SMALL}, {"a=b:0", "("}, {"a=b:2", "("}, {"a=b:1(", LETTERS}, {"a=b:1(t", ")"},
        {"a=b:1(a)", ""}, {"t.", SMALL}, {"a.0", "="}, {"a.2", "="}, {"a.1=", LETTERS}, {"a.1=t", ""}};
    private static final String[] ENDS = {"[a-t]=[a-t]", "[a-t]=[a-t]/[0-7]", "[a-t]=[a-t]\\.[0-2]",
        "[a-t]\\.[0-2]=[a-t]", "[a-t]=[a-t]:[0-2]\\([a-t]\\)", "[a-t]=![0-7]"};

    EdgesOfLines(Check c, Sentences document) {
        super(c, document);
    }

    void all() {
        feedLowestFirst();
        feedRefusesNumbers();
        feedFull();
        tapeOfTwenty();
        fortyLines();
        givesTold();
        castsTold();
        readsTold();
        writesTold();
        callsTold();
        makesTold();
        lettersAndNothingBetween();
        nameLetters();
        fieldNumbers();
        everyFault();
        endsTooEarly();
        tapeIsEmptyThen();
        lineRefuses();
        sixteenObjects();
        kindNotToldYet();
        threadsAndLocks();
        onAndOff();
        work();
        toldOfALine();
        lineToldRefuses();
        turnWhatItWas();
        turnRefuses();
        inTold();
        inRefuses();
    }

    private void feedLowestFirst() {
        says(7, "The n lowest bytes of a number, the lowest first, come behind THE TAPE: how many it has.");
        PointHouse h = new PointHouse();
        long bytes = Check.packed("a=b:0(c)");
        for (int n = 1; n <= 8; n++) {
            due("feed " + n, h.feed(n, bytes), n);
            int fault = n < 3 || n > 3 && n < 8 ? -100 - n : n / 8;
            due("line of the " + n + " lowest", h.line(0, 0), fault);
        }
        due("three of eight", h.feed(3, bytes), 3);
        due("come behind", h.feed(2, Check.packed("/7")), 5);
        due("what stood there", h.line(0, 0), 2);
        due("is x", h.lineTold(2, 1), 0);
        due("and k", h.lineTold(2, 3), 7);
        due("the highest byte of all", h.feed(8, -1L), 8);
        due("is no letter", h.line(0, 0), -100);
        due("a number below 0", h.feed(3, Check.packed("a=b") | -1L << 24), 3);
        due("has its lowest bytes", h.line(0, 0), 3);
    }

    private void feedRefusesNumbers() {
        says(7, "BAD: n is not 1 .. 8.");
        for (int n : outside(1, 8)) {
            refusedInAll("BAD ahead of FULL: feed " + n, h -> h.feed(n, 'a'), BAD);
        }
        due("the least", new PointHouse().feed(1, 'a'), 1);
        due("the most", new PointHouse().feed(8, 'a'), 8);
    }

    private void feedFull() {
        says(7, "FULL.");
        for (int n = 1; n <= 8; n++) {
            int one = n;
            refused(Edges::full, "full: feed " + n, h -> h.feed(one, 'a'), FULL);
            Story justTooLong = h -> Check.feed(h, "a=b/0a=b/0a=b/0a=b/0".substring(0, 21 - one));
            refused(justTooLong, "one too many of " + n, h -> h.feed(one, 'a'), FULL);
            PointHouse h = new PointHouse();
            Check.feed(h, "a=b/0a=b/0a=b/0a=b/0".substring(0, 20 - n));
            due("just room for " + n, h.feed(n, 'a'), 20);
        }
    }

    private void tapeOfTwenty() {
        says(0, "are read from THE TAPE (20 bytes at most), each of a SORT:");
        PointHouse h = new PointHouse();
        for (int n = 1; n <= 20; n++) {
            due("byte " + n, h.feed(1, 0), n);
        }
        due("a twenty-first", h.feed(1, 0), FULL);
        due("twenty stay", h.count(4), 20);
        due("they are read", h.line(0, 0), -100);
        due("twenty have room again", h.feed(8, 0) + h.feed(8, 0) + h.feed(4, 0), 8 + 16 + 20);
    }

    private void fortyLines() {
        says(0, "LINES (40 at most, numbered from 0)");
        PointHouse h = new PointHouse();
        for (int line = 0; line < 40; line++) {
            due("line " + line, Check.line(h, "b=a"), line);
        }
        due("a forty-first", Check.line(h, "b=a"), FULL);
        due("forty stay", h.count(1), 40);
        due("the last is told", h.lineTold(39, 0), 0);
        due("one more is not", h.lineTold(40, 0), BAD);
        h.turn(0, 0);
        due("a line that is off takes its room", h.line(0, 0), FULL);
    }

    /** A text that is a line: SORT, x, y, number and z. */
    private void told(String text, int sort, int x, int y, int number) {
        PointHouse h = new PointHouse();
        due(text, Check.line(h, text), 0);
        due(text + ": SORT", h.lineTold(0, 0), sort);
        due(text + ": x", h.lineTold(0, 1), x);
        due(text + ": y", h.lineTold(0, 2), y);
        due(text + ": number", h.lineTold(0, 3), number);
        due(text + ": object", h.lineTold(0, 10), sort == 5 ? 0 : NONE);
    }

    private void fault(String text, int place) {
        PointHouse h = new PointHouse();
        due("fault of " + text, Check.line(h, text), -100 - place);
    }

    private void givesTold() {
        says(0, "0 GIVE: x=y.");
        told("a=a", 0, 0, 0, NONE);
        told("a=t", 0, 0, 19, NONE);
        told("t=a", 0, 19, 0, NONE);
    }

    private void castsTold() {
        says(0, "1 CAST under GIVE: x=y/k (k a digit 0 .. 7).");
        for (int k = 0; k < 8; k++) {
            told("t=a/" + k, 1, 19, 0, k);
        }
        fault("a=b/8", 4);
        fault("a=b/" + (char) ('0' - 1), 4);
        fault("a=b/07", 5);
    }

    private void readsTold() {
        says(0, "2 READ under GIVE: x=y.f (f 0 .. 2).");
        for (int f = 0; f < 3; f++) {
            told("a=t." + f, 2, 0, 19, f);
        }
        fault("a=b.3", 4);
        fault("a=b." + (char) ('0' - 1), 4);
    }

    private void writesTold() {
        says(0, "3 WRITE under READ: x.f=y.");
        for (int f = 0; f < 3; f++) {
            told("t." + f + "=a", 3, 19, 0, f);
        }
        fault("a.3=b", 2);
        fault("a." + (char) ('0' - 1) + "=b", 2);
        fault("a.0=b.0", 5);
    }

    private void callsTold() {
        says(0, "4 CALL under READ: x=y:m(z) (m 0 .. 2).");
        for (int m = 0; m < 3; m++) {
            told("a=t:" + m + "(b)", 4, 0, 19, m);
        }
        fault("a=b:3(c)", 4);
        fault("a=b:" + (char) ('0' - 1) + "(c)", 4);
        fault("a=b:0()", 6);
    }

    private void makesTold() {
        says(0, "5 MAKE under GIVE: x=!k.");
        for (int k = 0; k < 8; k++) {
            told("t=!" + k, 5, 19, NONE, k);
        }
        fault("a=!8", 3);
        fault("a=!" + (char) ('0' - 1), 3);
    }

    private void lettersAndNothingBetween() {
        says(0, "(x, y, z: letters a .. t. Nothing stands between.)");
        String[] good = {"t=t", "t=t/0", "t=t.0", "t.0=t", "t=t:0(t)", "t=!0"};
        for (String text : good) {
            due(text, Check.line(new PointHouse(), text), 0);
            for (int i = 0; i < text.length(); i++) {
                boolean isLetter = text.charAt(i) == 't';
                for (char odd : new char[] {'u', '`', 'T', 'A'}) {
                    if (isLetter) {
                        fault(text.substring(0, i) + odd + text.substring(i + 1), i);
                    }
                }
                fault(text.substring(0, i) + " " + text.substring(i), i);
            }
            fault(text + " ", text.length());
        }
    }

    private void nameLetters() {
        says(0, "NAMES 0 .. 19 are the letters a .. t.");
        PointHouse h = new PointHouse();
        for (int name = 0; name < 20; name++) {
            Check.line(h, (char) ('a' + name) + "=" + (char) ('a' + 19 - name));
            due("x of line " + name, h.lineTold(name, 1), name);
            due("y of line " + name, h.lineTold(name, 2), 19 - name);
        }
        Check.line(h, "t=!0");
        due("the last name", h.holds(19), 1);
        due("name 20", h.holds(20), BAD);
        due("name -1", h.holds(-1), BAD);
    }

    private void fieldNumbers() {
        says(0, "FIELDS 0 .. 2.");
        PointHouse h = Check.house("a=!0", "b=!0", "c=!0", "d=!0", "a.0=b", "a.1=c", "a.2=d");
        for (int field = 0; field < 3; field++) {
            due("field " + field, h.field(0, field), 2 << field);
        }
        due("field 3", h.field(0, 3), BAD);
        due("field -1", h.field(0, -1), BAD);
    }

    private static boolean isLine(String text) {
        for (String end : ENDS) {
            if (text.matches(end)) {
                return true;
            }
        }
        return false;
    }

    private void everyFault() {
        says(0, "FAULT: the place of the first byte with which no LINE goes on");
        for (String[] state : GOES_ON) {
            for (int next = 0; next < 256; next++) {
                String text = state[0] + (char) next;
                int size = text.length();
                int place = state[1].indexOf(next) < 0 ? size - 1 : size;
                fault(text + "?", place);
                int want = isLine(text) ? 0 : -100 - place;
                due("a tape of " + text, Check.line(new PointHouse(), text), want);
            }
        }
    }

    private void endsTooEarly() {
        says(0, "(THE TAPE's size, if it ends too early).");
        due("an empty tape", new PointHouse().line(0, 0), -100);
        for (String[] state : GOES_ON) {
            if (!isLine(state[0])) {
                fault(state[0], state[0].length());
            }
        }
    }

    private void tapeIsEmptyThen() {
        says(8, "THE TAPE, which is empty then (by a FAULT, too), is a LINE (with THREAD and LOCK): its number;"
            + " -100 less the place of its FAULT.");
        PointHouse h = new PointHouse();
        due("a line", Check.line(h, "a=b", 2, 3), 0);
        due("THREAD", h.lineTold(0, 5), 2);
        due("LOCK", h.lineTold(0, 6), 3);
        due("empty behind a line", h.count(4), 0);
        due("a FAULT at the first place", Check.line(h, "?=b"), -100);
        due("empty behind it", h.count(4), 0);
        due("a FAULT of a full tape", Check.line(h, "a=b:0(c)a=b:0(c)a=b/"), -108);
        due("empty behind it", h.count(4), 0);
        due("a FAULT by its end", Check.line(h, "a=b:0(c"), -107);
        due("empty behind it", h.count(4), 0);
        due("no line by a FAULT", h.count(1), 1);
        due("no object by a FAULT", Check.line(h, "a=!0?"), -104);
        due("none is told", h.count(3), 0);
        due("the next number", Check.line(h, "a=!0"), 1);
    }

    private void lineRefuses() {
        says(8, "BAD: THREAD, LOCK; FULL: no LINE, no OBJECT more has room (THE TAPE stays; of OBJECTS: if it is a"
            + " MAKE without a FAULT).");
        for (int thread : outside(0, 2)) {
            refusedInAll("line of thread " + thread, h -> h.line(thread, 0), BAD);
            refused(Edges::noObjectLeft, "BAD ahead of FULL", h -> h.line(thread, 0), BAD);
        }
        for (int lock : outside(0, 3)) {
            refusedInAll("line of lock " + lock, h -> h.line(0, lock), BAD);
            refused(h -> Check.feed(h, "?"), "BAD ahead of a FAULT", h -> h.line(0, lock), BAD);
        }
        refused(Edges::full, "no LINE has room, with a FAULT", h -> h.line(0, 0), FULL);
        for (String text : new String[] {"", "a=b", "a=!0", "?"}) {
            refused(h -> fortyLinesAnd(h, text), "no LINE has room for " + text, h -> h.line(2, 3), FULL);
        }
        refused(Edges::noObjectLeft, "no OBJECT has room", h -> h.line(0, 0), FULL);
        PointHouse h = new PointHouse();
        noObjectLeft(h);
        due("the MAKE", h.line(0, 0), FULL);
        due("stays", h.count(4), 4);
        Check.feed(h, "!");
        due("with a FAULT it is no MAKE", h.line(0, 0), -104);
        due("and goes", h.count(4), 0);
        due("what is no MAKE has room", Check.line(h, "t=a"), 16);
        due("a MAKE that ends too early", Check.line(h, "t=!"), -103);
    }

    private static void fortyLinesAnd(PointHouse h, String text) {
        for (int line = 0; line < 40; line++) {
            Check.line(h, line < 3 ? "a=!" + line : "b=a");
        }
        Check.feed(h, text);
    }

    private void sixteenObjects() {
        says(0, "A MAKE makes its own OBJECT (16 at most, numbered from 0 as their LINES come)");
        PointHouse h = new PointHouse();
        Check.line(h, "b=a");
        for (int object = 0; object < 16; object++) {
            int line = Check.line(h, "a=!7");
            due("its object", h.lineTold(line, 10), object);
            due("objects", h.count(3), object + 1);
        }
        due("a seventeenth", Check.line(h, "a=!7"), FULL);
        due("sixteen stay", h.count(3), 16);
        due("one name holds them all", h.holds(1), 0xFFFF);
        h.turn(1, 0);
        due("a MAKE that is off keeps its object", h.line(0, 0), FULL);
        due("the last one's fields are asked", h.field(15, 2), 0);
        due("there is no other", h.field(16, 2), BAD);
    }

    private void kindNotToldYet() {
        says(0, "of KIND k (that need not be told yet: then it is under none, and has no ACTS).");
        PointHouse h = Check.house("a=!1", "b=a:0(a)", "c=a/0", "d=a/1");
        h.kind(NONE);
        h.has(0, 0, 0);
        h.names(0, 4, 5, 5);
        due("under none", h.holds(2), 0);
        due("it is itself", h.holds(3), 1);
        due("has no acts", h.aims(1), 0);
        due("a run casts it not", castsInARun(h), 0);
        due("told under another one", h.kind(0), 1);
        due("it is under that one", h.holds(2), 1);
        due("and has its acts", h.aims(1), 1);
        due("which tell SELF", h.holds(4), 1);
        due("and GIVEN, and BACK", h.holds(1), 1);
        due("a run casts it", castsInARun(h), 1);
    }

    private static int castsInARun(PointHouse h) {
        h.run(3, 200);
        return h.seen(2);
    }

    private void threadsAndLocks() {
        says(0, "Each LINE has a THREAD (0 .. 2) and a LOCK (0 .. 3; 0: none), told with it,");
        PointHouse h = new PointHouse();
        for (int thread = 0; thread < 3; thread++) {
            for (int lock = 0; lock < 4; lock++) {
                int line = Check.line(h, "a=b", thread, lock);
                due("THREAD of " + line, h.lineTold(line, 5), thread);
                due("LOCK of " + line, h.lineTold(line, 6), lock);
            }
        }
        due("all are lines", h.count(1), 12);
        due("no THREAD 3", Check.line(h, "a=b", 3, 0), BAD);
        due("no LOCK 4", h.line(0, 4), BAD);
    }

    private void onAndOff() {
        says(0, "and is ON, till it is taken OFF; it may be ON again.");
        PointHouse h = Check.house("a=!0", "b=a");
        due("on at first", h.lineTold(1, 7), 1);
        due("b holds", h.holds(1), 1);
        h.turn(1, 0);
        due("off", h.lineTold(1, 7), 0);
        due("b holds nothing", h.holds(1), 0);
        due("the other stays on", h.count(2), 1);
        h.turn(1, 1);
        due("on again", h.lineTold(1, 7), 1);
        due("b holds again", h.holds(1), 1);
        h.turn(0, 0);
        due("its MAKE off", h.holds(1), 0);
        h.turn(0, 1);
        due("the same object again", h.holds(1), 1);
        due("no other was made", h.count(3), 1);
    }

    private void work() {
        says(0, "WORK of a SORT: GIVE 1; CAST 1 more than a GIVE; READ 2 more than a GIVE; WRITE twice a READ's;"
            + " CALL 3 more than a READ; MAKE as a GIVE.");
        PointHouse h = Check.house("a=b", "a=b/0", "a=b.0", "a.0=b", "a=b:0(c)", "a=!0");
        int[] want = {1, 2, 3, 6, 6, 1};
        int sum = 0;
        for (int line = 0; line < want.length; line++) {
            due("work of line " + line, h.lineTold(line, 9), want[line]);
            sum += want[line];
        }
        due("of all", h.count(5), sum);
        h.turn(3, 0);
        due("off, a line still has its work", h.lineTold(3, 9), 6);
        due("but not among those on", h.count(5), sum - 6);
    }

    private void toldOfALine() {
        says(9, "Of a LINE: 0 SORT, 1 x, 2 y (NONE: a MAKE), 3 its number k, f, m (NONE: a GIVE), 4 z (NONE: no CALL),"
            + " 5 THREAD, 6 LOCK, 7 whether it is ON (1, 0), 8 IN, 9 WORK, 10 its OBJECT (NONE: no MAKE).");
        String[] texts = {"t=s", "s=t/0", "a=t.0", "t.2=a", "a=b:2(t)", "t=!0", "a=!7"};
        int[][] want = {
            {0, 19, 18, NONE, NONE, 0, 3, 1, NONE, 1, NONE},
            {1, 18, 19, 0, NONE, 1, 2, 1, NONE, 2, NONE},
            {2, 0, 19, 0, NONE, 2, 1, 1, NONE, 3, NONE},
            {3, 19, 0, 2, NONE, 0, 0, 1, NONE, 6, NONE},
            {4, 0, 1, 2, 19, 1, 3, 1, NONE, 6, NONE},
            {5, 19, NONE, 0, NONE, 2, 2, 1, NONE, 1, 0},
            {5, 0, NONE, 7, NONE, 0, 1, 1, NONE, 1, 1}};
        PointHouse h = new PointHouse();
        for (int line = 0; line < texts.length; line++) {
            Check.line(h, texts[line], line % 3, 3 - line % 4);
        }
        for (int what = 0; what < 11; what++) {
            for (int line = 0; line < texts.length; line++) {
                due(texts[line] + ", told " + what, h.lineTold(line, what), want[line][what]);
            }
        }
        h.turn(6, 0);
        h.in(6, 0);
        due("off", h.lineTold(6, 7), 0);
        due("in", h.lineTold(6, 8), 0);
        due("its object all the same", h.lineTold(6, 10), 1);
    }

    private void lineToldRefuses() {
        says(9, "BAD.");
        refused(Edges::fresh, "of no line", h -> h.lineTold(0, 0), BAD);
        for (int line : outside(0, 11)) {
            refused(Edges::ordinary, "told of line " + line, h -> h.lineTold(line, 0), BAD);
        }
        for (int line : outside(0, 39)) {
            refused(Edges::full, "told of line " + line, h -> h.lineTold(line, 10), BAD);
        }
        for (int what : outside(0, 10)) {
            refused(Edges::ordinary, "told " + what, h -> h.lineTold(0, what), BAD);
            refused(Edges::full, "told " + what, h -> h.lineTold(39, what), BAD);
        }
    }

    private void turnWhatItWas() {
        says(10, "A LINE is ON (1), OFF (0): what it was.");
        PointHouse h = Check.house("a=!0");
        due("on, it was on", h.turn(0, 1), 1);
        due("off, it was on", h.turn(0, 0), 1);
        due("off, it was off", h.turn(0, 0), 0);
        due("on, it was off", h.turn(0, 1), 0);
        due("none is off", h.count(2), 1);
    }

    private void turnRefuses() {
        says(10, "BAD.");
        refused(Edges::fresh, "no line", h -> h.turn(0, 0), BAD);
        for (int line : outside(0, 11)) {
            refused(Edges::ordinary, "turn line " + line, h -> h.turn(line, 0), BAD);
        }
        for (int line : outside(0, 39)) {
            refused(Edges::full, "turn line " + line, h -> h.turn(line, 0), BAD);
        }
        for (int on : outside(0, 1)) {
            refused(Edges::ordinary, "turn a line that is on: " + on, h -> h.turn(0, on), BAD);
            refused(Edges::ordinary, "turn a line that is off: " + on, h -> h.turn(3, on), BAD);
            refused(Edges::full, "turn: " + on, h -> h.turn(39, on), BAD);
        }
    }

    private void inTold() {
        says(0, "IN of a LINE: the FUNCTION (told: -1 .. 5; -1 at first: none).");
        says(11, "IN of a LINE: what it was.");
        PointHouse h = Check.house("a=!0", "b=a");
        due("none at first", h.lineTold(1, 8), NONE);
        int before = NONE;
        for (int function : new int[] {0, 5, 5, NONE, NONE, 3}) {
            due("in " + function, h.in(1, function), before);
            due("told " + function, h.lineTold(1, 8), function);
            before = function;
        }
        due("the other line stays", h.lineTold(0, 8), NONE);
    }

    private void inRefuses() {
        says(11, "-5: none such.");
        refused(Edges::fresh, "no line", h -> h.in(0, 0), NONE_SUCH);
        for (int line : outside(0, 11)) {
            refused(Edges::ordinary, "in of line " + line, h -> h.in(line, 0), NONE_SUCH);
        }
        for (int line : outside(0, 39)) {
            refused(Edges::full, "in of line " + line, h -> h.in(line, NONE), NONE_SUCH);
        }
        for (int function : outside(NONE, 5)) {
            refused(Edges::ordinary, "in " + function, h -> h.in(1, function), NONE_SUCH);
            refused(Edges::full, "in " + function, h -> h.in(20, function), NONE_SUCH);
        }
    }
}
