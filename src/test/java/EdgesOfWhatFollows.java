/** The sentences about what follows from what is held: promises 19 to 26. */
final class EdgesOfWhatFollows extends Edges {
    EdgesOfWhatFollows(Check c, Sentences document) {
        super(c, document);
    }

    void all() {
        sureMayFails();
        castRefuses();
        aimsOfACall();
        aimsRefuses();
        deadFunctions();
        cutOfAMaybe();
        cutOfNothing();
        cutRefuses();
        justOneObject();
        sameRefuses();
        meltedRound();
        meltedRefuses();
        inAnother();
        fieldsLeaveToo();
        objectsThatLeave();
        racesWith();
        locksInCommon();
        objectInCommon();
        racesInOrder();
        noneSuch();
    }

    private void sureMayFails() {
        says(0, "A CAST is SURE, if all that y holds is of KIND k, or under it; it FAILS, if y holds something and"
            + " nothing is so; else it MAY.");
        says(19, "A CAST: 0 SURE, 1 MAY, 2 FAILS.");
        PointHouse h = Check.house("a=!0", "b=!1", "c=a", "c=b", "d=a/0", "d=b/0", "d=c/0", "d=c/1", "d=a/1",
            "d=t/0", "d=c/7");
        h.kind(NONE);
        h.kind(0);
        due("all of it: SURE", h.cast(4), 0);
        due("all under it: SURE", h.cast(5), 0);
        due("both: SURE", h.cast(6), 0);
        due("one of two: MAY", h.cast(7), 1);
        due("none of one: FAILS", h.cast(8), 2);
        due("y holds nothing: SURE", h.cast(9), 0);
        due("none of two: FAILS", h.cast(10), 2);
        h.turn(0, 0);
        due("the one that failed is not held: SURE", h.cast(7), 0);
        due("nothing is held any more: SURE", h.cast(8), 0);
    }

    private void castRefuses() {
        says(19, "BAD: LINE; STATE: no CAST.");
        refused(Edges::fresh, "cast of no line", h -> h.cast(0), BAD);
        for (int line : outside(0, 11)) {
            refused(Edges::ordinary, "cast of line " + line, h -> h.cast(line), BAD);
        }
        for (int line : outside(0, 39)) {
            refused(Edges::full, "cast of line " + line, h -> h.cast(line), BAD);
        }
        for (int line : new int[] {0, 3, 6, 7, 8}) {
            refused(Edges::ordinary, "no cast: line " + line, h -> h.cast(line), STATE);
        }
        refused(Edges::full, "no cast: the last line", h -> h.cast(39), STATE);
    }

    private static PointHouse withCalls() {
        PointHouse h = Check.house("a=!0", "b=!1", "b=a", "c=a:0(a)", "c=b:0(a)", "c=t:0(a)", "c=b:1(a)");
        h.kind(NONE);
        h.kind(0);
        h.has(0, 0, 0);
        h.has(1, 0, 5);
        return h;
    }

    private void aimsOfACall() {
        says(0, "AIMS of a CALL: FUNCTIONS (bits) of OBJECTS that y holds.");
        says(20, "AIMS of a CALL.");
        PointHouse h = withCalls();
        due("one object", h.aims(3), 1);
        due("two objects, two aims", h.aims(4), 33);
        due("y holds nothing", h.aims(5), 0);
        due("no kind has an aim", h.aims(6), 0);
        h.has(1, 0, NONE);
        due("two objects, one aim", h.aims(4), 1);
        h.has(0, 0, NONE);
        due("no aim any more", h.aims(4), 0);
    }

    private void aimsRefuses() {
        says(20, "BAD: LINE; STATE: no CALL.");
        refused(Edges::fresh, "aims of no line", h -> h.aims(0), BAD);
        for (int line : outside(0, 11)) {
            refused(Edges::ordinary, "aims of line " + line, h -> h.aims(line), BAD);
        }
        for (int line : outside(0, 39)) {
            refused(Edges::full, "aims of line " + line, h -> h.aims(line), BAD);
        }
        for (int line : new int[] {0, 3, 5, 6, 7}) {
            refused(Edges::ordinary, "no call: line " + line, h -> h.aims(line), STATE);
        }
        refused(Edges::full, "no call: the last line", h -> h.aims(39), STATE);
    }

    private void deadFunctions() {
        says(0, "DEAD: FUNCTIONS (bits) that are AIM of no CALL that is ON.");
        says(21, "DEAD.");
        due("no call at all", new PointHouse().dead(), 63);
        PointHouse h = withCalls();
        due("the first and the last are called", h.dead(), 30);
        h.turn(4, 0);
        due("a call that is off", h.dead(), 62);
        h.turn(3, 0);
        due("no call with an aim is on", h.dead(), 63);
        PointHouse all = Check.house("a=!0", "a=!1", "b=a:0(a)", "b=a:1(a)", "b=a:2(a)");
        for (int kind = 0; kind < 2; kind++) {
            all.kind(NONE);
            for (int act = 0; act < 3; act++) {
                all.has(kind, act, 3 * kind + act);
            }
        }
        due("none is dead", all.dead(), 0);
        all.turn(1, 0);
        due("half of them", all.dead(), 56);
    }

    private void cutOfAMaybe() {
        says(0, "A CUT of a maybe: LINES (bits) that are ON, without each of which, alone, the NAME would not hold the"
            + " OBJECT.");
        PointHouse h = Check.house("a=!0", "b=a", "c=b", "d=a", "c=d", "e=c");
        due("a chain", h.cut(0, 1), bits(0, 1));
        due("two ways that part and meet", h.cut(0, 4), bits(0, 5));
        h.turn(3, 0);
        due("a line that is off is none of them", h.cut(0, 4), bits(0, 1, 2, 5));
        due("nothing changes by it", h.holds(4), 1);
        PointHouse all = new PointHouse();
        for (int line = 0; line < 40; line++) {
            Check.line(all, line == 30 ? "a=!0" : line == 31 ? "b=a" : line == 32 ? "c=b" : line == 39 ? "d=c" : "s=t");
        }
        due("the lines 31 and 32", all.cut(0, 2), 7L << 30);
        due("the last line", all.cut(0, 3), 7L << 30 | 1L << 39);
        PointHouse every = new PointHouse();
        Check.line(every, "a=!0");
        Check.line(every, "a.0=a");
        for (int i = 1; i < 20; i++) {
            Check.line(every, (char) ('a' + i) + "=" + (char) ('a' + i - 1) + (i == 1 ? ".0" : ""));
        }
        due("all lines, by a FIELD", every.cut(0, 19), (1L << 21) - 1);
        PointHouse called = Check.house("a=!0", "b=a:0(a)");
        called.kind(NONE);
        called.has(0, 0, 0);
        called.names(0, 10, 11, 11);
        due("by a CALL", called.cut(0, 1), 3);
        due("by a CAST", Check.house("a=!0", "b=a/0", "c=a/1").cut(0, 1), 3);
    }

    private void cutOfNothing() {
        says(22, "A CUT (0: it isn't held, or by more than one way each).");
        PointHouse h = Check.house("a=!0", "b=!1", "c=!0", "c.0=a", "d=c.0");
        due("not held, by a name that holds another one", h.cut(1, 0), 0);
        due("not held, by a name that holds none", h.cut(1, 19), 0);
        h.turn(1, 0);
        due("its MAKE is off", h.cut(1, 1), 0);
        PointHouse g = Check.house("a=!0", "b=a", "b=a", "c=a", "c=b");
        due("a MAKE is the one way all the same", g.cut(0, 1), 1);
        due("ways of unlike lengths", g.cut(0, 2), 1);
        PointHouse off = Check.house("a=!0", "a=!0");
        due("two MAKES, each of its own object", off.cut(0, 0), 1);
        due("and the other's", off.cut(1, 0), 2);
    }

    private void cutRefuses() {
        says(22, "NO: OBJECT, NAME.");
        refused(Edges::fresh, "cut of no object", h -> h.cut(0, 0), PointHouse.NO);
        for (int object : outside(0, 2)) {
            refused(Edges::ordinary, "cut of object " + object, h -> h.cut(object, 0), PointHouse.NO);
        }
        for (int object : outside(0, 15)) {
            refused(Edges::full, "cut of object " + object, h -> h.cut(object, 0), PointHouse.NO);
        }
        for (int name : outside(0, 19)) {
            refused(Edges::ordinary, "cut of name " + name, h -> h.cut(0, name), PointHouse.NO);
            refused(Edges::full, "cut of name " + name, h -> h.cut(15, name), PointHouse.NO);
        }
    }

    private void justOneObject() {
        says(0, "SAME: two NAMES hold just one OBJECT, the same one.");
        says(23, "SAME (1, 0).");
        PointHouse h = Check.house("a=!0", "b=a", "c=!1", "d=a", "d=c", "e=d");
        due("the same one", h.same(0, 1), 1);
        due("the other way", h.same(1, 0), 1);
        due("a name and itself", h.same(0, 0), 1);
        due("one each, but unlike", h.same(0, 2), 0);
        due("one and two", h.same(0, 3), 0);
        due("two and one", h.same(3, 0), 0);
        due("the same two", h.same(3, 4), 0);
        due("nothing and nothing", h.same(18, 19), 0);
        due("nothing and itself", h.same(19, 19), 0);
        due("one and nothing", h.same(0, 19), 0);
        due("nothing and one", h.same(19, 0), 0);
        PointHouse last = new PointHouse();
        for (int i = 0; i < 15; i++) {
            Check.line(last, "a=!0");
        }
        Check.line(last, "s=!0");
        Check.line(last, "t=s");
        due("the last object", last.same(18, 19), 1);
    }

    private void sameRefuses() {
        says(23, "BAD.");
        for (int name : outside(0, 19)) {
            refusedInAll("same of " + name, h -> h.same(name, 0), BAD);
            refusedInAll("same with " + name, h -> h.same(0, name), BAD);
            refusedInAll("same of both " + name, h -> h.same(name, name), BAD);
        }
    }

    private void meltedRound() {
        says(0, "MELTED: NAMES that flow into one another by GIVES that are ON, round: told by the least NAME of"
            + " theirs.");
        says(24, "MELTED: the least NAME.");
        PointHouse none = new PointHouse();
        due("the first name by itself", none.melted(0), 0);
        due("the last name by itself", none.melted(19), 19);
        PointHouse h = Check.house("b=a", "c=b", "d=c", "e=e", "h=g", "g=h");
        due("one way is not round", h.melted(3), 3);
        due("into itself", h.melted(4), 4);
        due("two round", h.melted(7), 6);
        due("the least of two", h.melted(6), 6);
        Check.line(h, "a=d");
        for (int name = 0; name < 4; name++) {
            due("four round, name " + name, h.melted(name), 0);
        }
        h.turn(6, 0);
        due("off, no longer round", h.melted(3), 3);
        h.turn(6, 1);
        due("on again", h.melted(3), 0);
        PointHouse all = new PointHouse();
        for (int i = 0; i < 20; i++) {
            Check.line(all, (char) ('a' + i) + "=" + (char) ('a' + (i + 1) % 20));
        }
        due("all names round", all.melted(19), 0);
        all.turn(7, 0);
        due("all but one line", all.melted(19), 19);
        PointHouse eight = Check.house("a=b", "b=a", "b=c", "c=b", "d=c");
        due("two rounds with a name in common", eight.melted(2), 0);
        due("one beside them", eight.melted(3), 3);
        for (String text : new String[] {"b=a/0", "b=a.0", "b.0=a", "a.0=b", "b=a:0(a)"}) {
            due("by a GIVE and " + text, Check.house("a=!0", "a=b", text).melted(1), 1);
        }
    }

    private void meltedRefuses() {
        says(24, "BAD.");
        for (int name : outside(0, 19)) {
            refusedInAll("melted of " + name, h -> h.melted(name), BAD);
        }
    }

    private void inAnother() {
        says(0, "An OBJECT LEAVES its FUNCTION (that of its MAKE's IN), if a NAME of x of a LINE that is ON and IN"
            + " another one holds it,");
        PointHouse h = Check.house("a=!0", "b=a", "c=b", "c.0=t");
        due("all in none", h.leaves(), 0);
        h.in(0, 0);
        due("lines in none hold it", h.leaves(), 1);
        h.in(1, 0);
        h.in(2, 0);
        due("a WRITE's x, too", h.leaves(), 1);
        h.in(3, 0);
        due("all in the first function", h.leaves(), 0);
        h.in(2, 5);
        due("one in the last function", h.leaves(), 1);
        h.turn(2, 0);
        due("that one is off, and so the WRITE's x holds nothing", h.leaves(), 0);
        h.turn(2, 1);
        h.in(2, 0);
        h.in(0, NONE);
        due("the MAKE in none, the others in a function", h.leaves(), 1);
        h.turn(0, 0);
        due("the MAKE is off", h.leaves(), 0);
        PointHouse g = Check.house("a=!0", "b=a", "a=c");
        g.in(2, 4);
        due("x of another line than its way's", g.leaves(), 1);
        g.turn(2, 0);
        due("that line is off, though its x holds the object still", g.leaves(), 0);
        due("as it does", g.holds(0), 1);
        g.turn(2, 1);
        due("on again", g.leaves(), 1);
    }

    private void fieldsLeaveToo() {
        says(0, "or a FIELD of an OBJECT that LEAVES does.");
        PointHouse h = Check.house("a=!0", "b=!0", "c=!0", "d=!0", "a.0=b", "b.1=c", "c.2=a", "d.0=a", "e=a");
        h.in(8, 1);
        due("from field to field, and round", h.leaves(), 7);
        h.in(8, NONE);
        due("none", h.leaves(), 0);
        h.in(7, 3);
        due("x of the WRITE, and all behind it", h.leaves(), 15);
        h.in(7, NONE);
        h.in(4, 3);
        h.turn(6, 0);
        due("the field of the one below", h.leaves(), 7);
        h.turn(5, 0);
        due("a field that holds nothing any more", h.leaves(), 3);
        PointHouse all = new PointHouse();
        for (int i = 0; i < 16; i++) {
            Check.line(all, (char) ('a' + i) + "=!0");
        }
        for (int i = 15; i > 0; i--) {
            Check.line(all, (char) ('a' + i) + "." + i % 3 + "=" + (char) ('a' + i - 1));
        }
        Check.line(all, "t=p");
        all.in(31, 0);
        due("sixteen, one behind the other", all.leaves(), 0xFFFF);
    }

    private void objectsThatLeave() {
        says(25, "OBJECTS (bits) that LEAVE.");
        due("no lines", new PointHouse().leaves(), 0);
        PointHouse h = new PointHouse();
        for (int i = 0; i < 16; i++) {
            Check.line(h, "a=!0");
        }
        due("none", h.leaves(), 0);
        h.in(15, 2);
        due("the name of all is that of every MAKE", h.leaves(), 0xFFFF);
    }

    /** Thread 1 writes field 0 of a's object; another line stands beside it. */
    private static PointHouse beside(String text, int thread) {
        PointHouse h = Check.house("a=!0", "b=!0", "c=a");
        Check.line(h, "a.0=b", 1, 0);
        Check.line(h, text, thread, 0);
        return h;
    }

    private void racesWith() {
        says(0, "A RACE: two LINES that are ON, of unlike THREADS, each a READ or a WRITE (not a CALL), one at least a"
            + " WRITE, of one FIELD,");
        due("a READ", beside("d=c.0", 0).race(0), 304);
        due("a WRITE", beside("c.0=c", 2).race(0), 304);
        due("the same name", beside("a.0=a", 2).race(0), 304);
        due("of one THREAD", beside("d=c.0", 1).race(-1), 0);
        due("of the field ahead", beside("d=c.1", 0).race(-1), 0);
        due("of the last field", beside("c.2=c", 0).race(-1), 0);
        due("a CALL", beside("d=c:0(c)", 0).race(-1), 0);
        due("a GIVE", beside("d=c", 0).race(-1), 0);
        due("a CAST", beside("d=c/0", 0).race(-1), 0);
        due("a MAKE", beside("c=!0", 0).race(-1), 0);
        PointHouse reads = Check.house("a=!0", "b=a.0");
        Check.line(reads, "c=a.0", 1, 0);
        due("two READS", reads.race(-1), 0);
        for (int line = 3; line < 5; line++) {
            PointHouse h = beside("d=c.0", 0);
            h.turn(line, 0);
            due("line " + line + " is off", h.race(-1), 0);
            due("and so there is none", h.race(0), NONE);
            h.turn(line, 1);
            due("on again", h.race(-1), 1);
        }
    }

    private static PointHouse withLocks(int one, int other) {
        PointHouse h = Check.house("a=!0");
        Check.line(h, "a.0=a", 0, one);
        Check.line(h, "b=a.0", 1, other);
        return h;
    }

    private void locksInCommon() {
        says(0, "and that have no LOCK in common (0 is none).");
        for (int one = 0; one < 4; one++) {
            for (int other = 0; other < 4; other++) {
                int want = one == other && one != 0 ? 0 : 1;
                due("locks " + one + " and " + other, withLocks(one, other).race(-1), want);
            }
        }
    }

    private void objectInCommon() {
        says(0, "for which one OBJECT may be (READ: y's; WRITE: x's),");
        due("unlike objects of a READ", beside("d=b.0", 0).race(-1), 0);
        due("unlike objects of a WRITE", beside("b.0=a", 0).race(-1), 0);
        due("a READ's x does not matter", beside("c=b.0", 0).race(-1), 0);
        due("nothing may be there", beside("d=t.0", 0).race(-1), 0);
        PointHouse h = beside("d=b.0", 0);
        Check.line(h, "b=c");
        due("one of two may be", h.race(-1), 1);
        PointHouse last = new PointHouse();
        for (int i = 0; i < 16; i++) {
            Check.line(last, i < 15 ? "a=!0" : "b=!0");
        }
        Check.line(last, "b.2=a", 0, 0);
        Check.line(last, "c=b.2", 1, 0);
        Check.line(last, "c=a.2", 2, 0);
        due("the last object, and no other", last.race(0), 1617);
        due("no more", last.race(-1), 1);
    }

    private static PointHouse manyRaces() {
        PointHouse h = new PointHouse();
        Check.line(h, "a=!0");
        for (int i = 1; i < 40; i++) {
            Check.line(h, "a.0=a", i % 3, 0);
        }
        return h;
    }

    private void racesInOrder() {
        says(26, "RACES: i = -1: how many; else the i-th, as 100 times the lesser LINE and the other one (by the lesser"
            + " one, then the other one).");
        due("none of no lines", new PointHouse().race(-1), 0);
        PointHouse h = manyRaces();
        int found = 0;
        for (int a = 1; a < 40 && found < 400; a++) {
            for (int b = a + 1; b < 40 && found < 400; b++) {
                if (a % 3 != b % 3) {
                    due("race " + found, h.race(found), 100 * a + b);
                    found++;
                }
            }
        }
        PointHouse g = manyRaces();
        due("how many", g.race(-1), 507);
        due("the last", g.race(506), 3839);
        due("with the last line", g.race(25), 139);
        due("then the next lesser one", g.race(26), 203);
        due("one behind the last", g.race(507), NONE);
        PointHouse first = new PointHouse();
        Check.line(first, "b=a.0", 0, 0);
        Check.line(first, "a.0=a", 1, 0);
        Check.line(first, "a.0=a", 2, 0);
        Check.line(first, "a=!0");
        int[] want = {1, 2, 102};
        for (int i = 0; i < want.length; i++) {
            due("with the first line: race " + i, first.race(i), want[i]);
        }
    }

    private void noneSuch() {
        says(26, "NONE: none such.");
        refused(Edges::fresh, "no lines", h -> h.race(0), NONE);
        for (int i : new int[] {LEAST, -2, 780, MOST}) {
            refusedInAll("race " + i, h -> h.race(i), NONE);
        }
        PointHouse h = withLocks(0, 0);
        due("the only one", h.race(0), 102);
        due("a second one", h.race(1), NONE);
    }
}
