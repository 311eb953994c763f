import java.math.BigInteger;

/** The sentences about the machine and what is counted: promises 27 to 30. */
final class EdgesOfMachine extends Edges {
    EdgesOfMachine(Check c, Sentences document) {
        super(c, document);
    }

    void all() {
        noneAtFirst();
        lots();
        makes();
        gives();
        casts();
        reads();
        writes();
        calls();
        callsInTheirOrder();
        callsOfWhatIsTold();
        beginsWithNothing();
        truePoints();
        stepsThatDid();
        runRefuses();
        seenRefuses();
        nowAsItIsOver();
        nowRefuses();
        howMany();
        countRefuses();
    }

    /** A seed by which the first steps do these lines, of so many. */
    private static int seedFor(int lines, int... order) {
        for (int seed = 0; seed < 100000; seed++) {
            long lot = seed + 1L;
            int step = 0;
            do {
                lot = lot * 48271 % 2147483647;
            } while (lot % lines == order[step] && ++step < order.length);
            if (step == order.length) {
                return seed;
            }
        }
        throw new IllegalStateException("no seed");
    }

    /** Does lines in an order: how many did something. */
    private static int done(PointHouse h, int... order) {
        return h.run(seedFor(h.count(1), order), order.length);
    }

    private void noneAtFirst() {
        says(0, "THE MACHINE: each NAME and each FIELD of each OBJECT has one OBJECT, or none (at first).");
        PointHouse h = Check.house("a=!0", "b=a.0", "b=a.1", "b=a.2");
        for (int name = 0; name < 20; name++) {
            due("ahead of all runs, name " + name, h.now(name), NONE);
            due("had nothing, name " + name, h.seen(name), 0);
        }
        due("a run of no step", h.run(0, 0), 0);
        for (int name = 0; name < 20; name++) {
            due("behind it, name " + name, h.now(name), NONE);
        }
        done(h, 0, 1, 2, 3);
        due("no field has one", h.seen(1), 0);
    }

    /** How many of the steps do a line, by the words of the document. */
    private static int stepsOf(int seed, int n, int lines, int line) {
        BigInteger lot = BigInteger.valueOf(seed).add(BigInteger.ONE);
        int steps = 0;
        for (int i = 0; i < n; i++) {
            lot = lot.multiply(BigInteger.valueOf(48271)).mod(BigInteger.valueOf(2147483647));
            steps += lot.mod(BigInteger.valueOf(lines)).intValue() == line ? 1 : 0;
        }
        return steps;
    }

    private void lots() {
        says(0, "A RUN of n steps by a SEED (0 .. 99999): the LOT is (SEED and 1) first, then times 48271 modulo"
            + " 2147483647, step by step (once ahead of each step); the step does LINE LOT modulo how many LINES there"
            + " are (nothing, if it is OFF):");
        for (int lines : new int[] {1, 2, 3, 7, 39, 40}) {
            PointHouse h = new PointHouse();
            for (int line = 0; line < lines; line++) {
                Check.line(h, "a=!0".substring(0, line % 16 == 0 ? 4 : 2) + (line % 16 == 0 ? "" : "b"));
                h.turn(line, 0);
            }
            due("all are off", h.run(0, 500), 0);
            for (int line : new int[] {0, lines / 2, lines - 1}) {
                h.turn(line, 1);
                for (int seed : new int[] {0, 1, 44488, 44489, 99998, 99999}) {
                    for (int n : new int[] {0, 1, 2, 500}) {
                        String run = lines + " lines, " + line + " on, seed " + seed + ", n " + n;
                        due(run, h.run(seed, n), stepsOf(seed, n, lines, line));
                    }
                }
                h.turn(line, 0);
            }
        }
    }

    private void makes() {
        says(0, "MAKE: x has its OBJECT.");
        PointHouse h = Check.house("a=!0", "a=!0");
        due("two makes", done(h, 0, 1), 2);
        due("the later one's", h.now(0), 1);
        due("the other order", done(h, 1, 0), 2);
        due("the other one's", h.now(0), 0);
        due("the same one twice", done(h, 1, 1), 2);
        due("is one object", h.seen(0), 2);
    }

    private void gives() {
        says(0, "GIVE: x has what y has (or none; that is something, too).");
        PointHouse h = Check.house("a=!0", "b=a", "a=t", "a=a");
        due("y has one", done(h, 0, 1), 2);
        due("x has it", h.now(1), 0);
        due("y has none", done(h, 1), 1);
        due("x has none", h.now(1), NONE);
        due("x had one, y has none", done(h, 0, 2), 2);
        due("x has none then", h.now(0), NONE);
        due("but had one", h.seen(0), 1);
        due("to itself", done(h, 0, 3), 2);
        due("it stays", h.now(0), 0);
        due("b keeps what it was given", done(h, 0, 1, 2), 3);
        due("b", h.now(1), 0);
    }

    private void casts() {
        says(0, "CAST: likewise, if that is of KIND k or under it; else (not none) nothing.");
        PointHouse h = Check.house("a=!1", "b=!0", "b=a/0", "b=a/1");
        due("not of it (untold): nothing", done(h, 0, 1, 2), 2);
        due("x stays", h.now(1), 1);
        due("of it, though untold", done(h, 0, 1, 3), 3);
        due("x has it", h.now(1), 0);
        due("y has none: that is something", done(h, 1, 2), 2);
        due("x has none", h.now(1), NONE);
        h.kind(NONE);
        h.kind(0);
        due("under it, told now", done(h, 0, 1, 2), 3);
        due("x has it, too", h.now(1), 0);
        PointHouse above = Check.house("a=!0", "b=a/1");
        above.kind(NONE);
        above.kind(0);
        due("above it: nothing", done(above, 0, 1), 1);
        due("x has none", above.seen(1), 0);
    }

    private void reads() {
        says(0, "READ: x has what FIELD f of what y has does; nothing, if y has none.");
        PointHouse h = Check.house("a=!0", "b=!1", "b=a.0", "a.0=b", "c=a.1");
        due("y has none: nothing", done(h, 1, 2), 1);
        due("x stays", h.now(1), 1);
        due("the field has none: that is something", done(h, 0, 1, 2), 3);
        due("x has none", h.now(1), NONE);
        due("the field has one", done(h, 0, 1, 3, 2), 4);
        due("x has it", h.now(1), 1);
        due("another field", done(h, 0, 1, 3, 4), 4);
        due("has none", h.seen(2), 0);
    }

    private void writes() {
        says(0, "WRITE: FIELD f of what x has has what y has; nothing, if x has none.");
        PointHouse h = Check.house("a=!0", "b=!1", "a.2=b", "c=a.2", "b=t");
        due("x has none: nothing", done(h, 1, 2), 1);
        due("x has one", done(h, 0, 1, 2, 3), 4);
        due("its field", h.now(2), 1);
        due("y has none: that is something", done(h, 0, 2), 2);
        due("none over one", done(h, 0, 1, 2, 4, 2, 3), 6);
        due("the field has none", h.now(2), NONE);
        PointHouse two = Check.house("a=!0", "b=!0", "a.0=b", "c=b.0");
        due("into one", done(two, 0, 1, 2, 3), 4);
        due("not into the other", two.seen(2), 0);
    }

    private static PointHouse withCall(int self, int given, int back) {
        PointHouse h = Check.house("a=!0", "b=!1", "c=!2", "c=a:1(b)");
        h.kind(NONE);
        h.has(0, 1, 5);
        h.names(5, self, given, back);
        return h;
    }

    private void calls() {
        says(0, "CALL: if y has an OBJECT with an AIM:");
        says(0, "nothing, if it has none, or no AIM.");
        PointHouse h = withCall(10, 11, 11);
        due("y has none: nothing", done(h, 1, 2, 3), 2);
        due("SELF has none", h.now(10), NONE);
        due("x stays", h.now(2), 2);
        due("y has one with an AIM", done(h, 0, 1, 2, 3), 4);
        due("x has what came back", h.now(2), 1);
        h.has(0, 1, NONE);
        due("no AIM: nothing", done(h, 0, 1, 2, 3), 3);
        due("SELF has none then", h.now(10), NONE);
        due("x stays then", h.now(2), 2);
        PointHouse untold = Check.house("a=!0", "b=a:0(a)");
        due("a kind that is not told: nothing", done(untold, 0, 1), 1);
    }

    private void callsInTheirOrder() {
        says(0, "SELF has it, GIVEN has what z had ahead of that, then x has what BACK has");
        PointHouse isZ = withCall(1, 11, NONE);
        done(isZ, 0, 1, 3);
        due("SELF, which is z, has it", isZ.now(1), 0);
        due("GIVEN has what z had ahead of that", isZ.now(11), 1);
        PointHouse both = withCall(10, 10, 10);
        done(both, 0, 1, 3);
        due("GIVEN comes behind SELF", both.now(10), 1);
        due("SELF came all the same", both.seen(10), 3);
        due("BACK comes behind both", both.now(2), 1);
        PointHouse self = withCall(10, 11, 10);
        done(self, 0, 1, 3);
        due("BACK is SELF", self.now(2), 0);
        PointHouse isX = withCall(2, NONE, 1);
        done(isX, 0, 1, 3);
        due("x comes behind SELF", isX.now(2), 1);
        PointHouse isY = withCall(NONE, 0, 0);
        done(isY, 0, 1, 3);
        due("GIVEN is y", isY.now(0), 1);
        due("and x has that", isY.now(2), 1);
    }

    private void callsOfWhatIsTold() {
        says(0, "(each as far as it is told; x stays as it is, if BACK isn't);");
        PointHouse none = withCall(NONE, NONE, NONE);
        due("nothing is told: a step with an AIM all the same", done(none, 0, 1, 2, 3), 4);
        due("x stays", none.now(2), 2);
        PointHouse self = withCall(10, NONE, NONE);
        done(self, 0, 1, 2, 3);
        due("SELF alone", self.now(10), 0);
        due("x stays with SELF alone", self.now(2), 2);
        PointHouse given = withCall(NONE, 11, NONE);
        done(given, 0, 1, 2, 3);
        due("GIVEN alone", given.now(11), 1);
        done(given, 0, 2, 3);
        due("z has none: GIVEN has none", given.now(11), NONE);
        due("x stays with GIVEN alone", given.now(2), 2);
        PointHouse back = withCall(NONE, NONE, 19);
        due("BACK has none", done(back, 0, 1, 2, 3), 4);
        due("x has none then", back.now(2), NONE);
    }

    private void beginsWithNothing() {
        says(0, "Each RUN begins with nothing.");
        PointHouse h = Check.house("a=!0", "a.0=a", "b=a.0", "c=a");
        done(h, 0, 1, 2, 3);
        due("had", h.now(1), 0);
        done(h, 3);
        due("a has none", h.now(3), NONE);
        due("a name has none", h.now(0), NONE);
        done(h, 0, 2);
        due("a field has none", h.seen(1), 0);
        h.run(5, 0);
        due("by a run of no steps, too", h.seen(0), 0);
        due("and has none", h.now(0), NONE);
    }

    private void truePoints() {
        says(0, "TRUE points: what a NAME had in the latest RUN, at any time.");
        says(28, "TRUE points of a NAME (bits).");
        PointHouse h = Check.house("a=!0", "a=!1", "a=t", "b=a");
        due("ahead of all runs", h.seen(0), 0);
        done(h, 0, 1, 2);
        due("both, though it has none now", h.seen(0), 3);
        due("now", h.now(0), NONE);
        done(h, 1);
        due("of the latest run alone", h.seen(0), 2);
        h.turn(1, 0);
        due("though its MAKE is off now", h.seen(0), 2);
        Check.line(h, "c=a");
        due("though a line came", h.seen(0), 2);
        due("a refused run", h.run(0, 501), BAD);
        due("is none", h.seen(0), 2);
        PointHouse all = new PointHouse();
        for (int i = 0; i < 16; i++) {
            Check.line(all, "t=!0");
        }
        all.run(1, 500);
        due("all sixteen", all.seen(19), 0xFFFF);
    }

    private void stepsThatDid() {
        says(27, "A RUN of n steps (0 .. 500): how many did something.");
        PointHouse h = Check.house("a=!0");
        due("no step", h.run(0, 0), 0);
        due("one step", h.run(0, 1), 1);
        due("all steps", h.run(99999, 500), 500);
        PointHouse idle = Check.house("a=t.0", "t.1=a", "a=t:0(a)");
        due("none of all", idle.run(99999, 500), 0);
    }

    private void runRefuses() {
        says(27, "BAD; STATE: no LINES.");
        for (int seed : outside(0, 99999)) {
            refusedInAll("BAD ahead of STATE: seed " + seed, h -> h.run(seed, 1), BAD);
        }
        for (int n : outside(0, 500)) {
            refusedInAll("BAD ahead of STATE: n " + n, h -> h.run(0, n), BAD);
        }
        refused(Edges::fresh, "no LINES", h -> h.run(0, 0), STATE);
        refused(Edges::fresh, "no LINES, many steps", h -> h.run(99999, 500), STATE);
        refused(h -> h.kind(NONE), "a KIND, but no LINES", h -> h.run(1, 1), STATE);
        PointHouse off = Check.house("a=!0");
        off.turn(0, 0);
        due("a line that is off is a LINE", off.run(1, 500), 0);
    }

    private void seenRefuses() {
        says(28, "BAD.");
        for (int name : outside(0, 19)) {
            refusedInAll("seen of name " + name, h -> h.seen(name), BAD);
        }
    }

    private void nowAsItIsOver() {
        says(29, "What a NAME has as the latest RUN is over.");
        PointHouse h = Check.house("a=!0", "b=a", "t=!1");
        done(h, 0, 1, 2);
        due("the first object", h.now(1), 0);
        due("the last name", h.now(19), 1);
        h.turn(0, 0);
        due("the run is over: a line goes", h.now(0), 0);
        due("a refused run", h.run(-1, 0), BAD);
        due("is none", h.now(0), 0);
        done(h, 1);
        due("the latest run", h.now(19), NONE);
    }

    private void nowRefuses() {
        says(29, "NONE; BAD.");
        for (int name : outside(0, 19)) {
            refusedInAll("now of name " + name, h -> h.now(name), BAD);
        }
        due("none, of a name that is one", new PointHouse().now(19), NONE);
    }

    private void howMany() {
        says(30, "How many: 0 KINDS, 1 LINES, 2 LINES that are ON, 3 OBJECTS, 4 bytes of THE TAPE, 5 WORK of all LINES"
            + " that are ON.");
        PointHouse h = new PointHouse();
        for (int what = 0; what < 6; what++) {
            due("none at first: " + what, h.count(what), 0);
        }
        full(h);
        int[] want = {8, 40, 39, 16, 20, 16 + 8 * 6 + 8 * 3 + 8 * 6 - 6};
        for (int what = 0; what < 6; what++) {
            due("of a full house: " + what, h.count(what), want[what]);
        }
        PointHouse g = Check.house("a=!0", "b=a");
        g.turn(0, 0);
        due("a MAKE that is off has its OBJECT", g.count(3), 1);
        due("and is a LINE", g.count(1), 2);
        due("but not one that is ON", g.count(2), 1);
        due("and no WORK", g.count(5), 1);
        g.turn(1, 0);
        due("none ON", g.count(2) + g.count(5), 0);
    }

    private void countRefuses() {
        says(30, "BAD.");
        for (int what : outside(0, 5)) {
            refusedInAll("count of " + what, h -> h.count(what), BAD);
        }
    }
}
