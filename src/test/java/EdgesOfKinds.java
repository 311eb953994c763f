/** The sentences about a new object, kinds and functions: promises 1 to 6. */
final class EdgesOfKinds extends Edges {
    EdgesOfKinds(Check c, Sentences document) {
        super(c, document);
    }

    void all() {
        newObject();
        numbersOfRefusals();
        callsOfAnObject();
        eightKinds();
        aboveIsLesser();
        underNoneOrAnother();
        kindRefuses();
        acts();
        noFunctionAtAll();
        nextAboveThatHasOne();
        hadItself();
        hasRefuses();
        aimRefuses();
        namesAtFirst();
        functions();
        namesOfAFunction();
        namesRefuses();
        itselfOrUnder();
        underRefuses();
    }

    private void newObject() {
        says(1, "No KINDS, no LINES.");
        PointHouse h = new PointHouse();
        due("kinds of a new object", h.count(0), 0);
        due("lines of a new object", h.count(1), 0);
        due("lines on", h.count(2), 0);
        due("objects", h.count(3), 0);
        due("bytes", h.count(4), 0);
        due("work", h.count(5), 0);
        due("still of no lines", h.still(), 0);
        due("races of no lines", h.race(-1), 0);
        due("objects that leave", h.leaves(), 0);
        due("no call, so all are dead", h.dead(), 63);
        due("the first kind", h.kind(NONE), 0);
        due("the first line", Check.line(h, "a=b"), 0);
    }

    private void numbersOfRefusals() {
        says(0, "NONE is -1; NO, where a long is answered, -4611686018427387904.");
        says(0, "Refusals, the first that the call's words name; they change nothing: BAD (-2: a number is none such"
            + " or not as told), STATE (-3), FULL (-4);");
        says(0, "the host's: -11 nothing where something is asked, -12 a place outside, -13 a thing of another sort"
            + " or SORT, -14 a size below 0.");
        due("NONE", PointHouse.NONE, -1);
        due("NO", PointHouse.NO, -4611686018427387904L);
        due("BAD", PointHouse.BAD, -2);
        due("STATE", PointHouse.STATE, -3);
        due("FULL", PointHouse.FULL, -4);
        PointHouse h = new PointHouse();
        due("a number that is none such", h.holds(20), -2);
        due("nothing where something is asked", h.cell(0, 0, 0), -11);
        h.sheet(0, 0, 1);
        due("a place outside", h.cell(0, 1, 0), -12);
        due("a thing of another sort", h.taped(0, 1, 0, 0), -13);
        Check.line(h, "a=b");
        due("a line of another SORT", h.taken(0, 1), -13);
        due("a size below 0", h.sheet(0, 0, -1), -14);
    }

    private void callsOfAnObject() {
        says(0, "An object is used for at most 512 calls after it has been made; what later calls answer is free.");
        PointHouse h = new PointHouse();
        Check.line(h, "a=!0");
        Check.line(h, "b=a");
        for (int call = 5; call < 512; call++) {
            due("call " + call, h.turn(1, call & 1), call == 5 ? 1 : ~call & 1);
        }
        due("the 512th call", h.holds(1), 1);
    }

    private void eightKinds() {
        says(0, "KINDS (8 at most, numbered from 0):");
        PointHouse h = new PointHouse();
        for (int kind = 0; kind < 8; kind++) {
            due("kind " + kind, h.kind(NONE), kind);
        }
        due("a ninth", h.kind(NONE), FULL);
        due("eight stay", h.count(0), 8);
        due("the last is told", h.under(7, 7), 1);
        due("a ninth is not", h.under(8, 8), BAD);
    }

    private void aboveIsLesser() {
        says(0, "each under another one (a lesser number), or none.");
        PointHouse h = new PointHouse();
        due("the first under itself", h.kind(0), BAD);
        due("under none", h.kind(NONE), 0);
        due("under itself", h.kind(1), BAD);
        due("under a greater one", h.kind(2), BAD);
        due("under the greatest", h.kind(7), BAD);
        due("under the last", h.kind(0), 1);
        due("under the first", h.kind(0), 2);
        due("under one between", h.kind(1), 3);
        due("the last is under it", h.under(3, 1), 1);
        due("and not under the one beside", h.under(3, 2), 0);
    }

    private void underNoneOrAnother() {
        says(2, "A KIND under another one (NONE): its number.");
        PointHouse h = new PointHouse();
        due("under none", h.kind(NONE), 0);
        due("a second one under none", h.kind(NONE), 1);
        due("under one", h.kind(1), 2);
        due("none is above", h.under(1, 0), 0);
        due("one is above", h.under(2, 1), 1);
    }

    private void kindRefuses() {
        says(2, "BAD; FULL.");
        for (int above : new int[] {LEAST, -2, 0, 1, 7, 8, MOST}) {
            refused(Edges::fresh, "new: kind " + above, h -> h.kind(above), BAD);
        }
        for (int above : new int[] {LEAST, -2, 3, 4, 7, 8, MOST}) {
            refused(Edges::ordinary, "ordinary: kind " + above, h -> h.kind(above), BAD);
        }
        for (int above : new int[] {LEAST, -2, 8, 9, MOST}) {
            refused(Edges::full, "BAD ahead of FULL: kind " + above, h -> h.kind(above), BAD);
        }
        for (int above = NONE; above < 8; above++) {
            int one = above;
            refused(Edges::full, "full: kind " + above, h -> h.kind(one), FULL);
        }
    }

    private void acts() {
        says(0, "ACTS 0 .. 2:");
        PointHouse h = new PointHouse();
        h.kind(NONE);
        for (int act = 0; act < 3; act++) {
            due("has act " + act, h.has(0, act, act + 1), NONE);
        }
        for (int act = 0; act < 3; act++) {
            due("aim of act " + act, h.aim(0, act), act + 1);
        }
        due("act -1", h.aim(0, -1), BAD);
        due("act 3", h.aim(0, 3), BAD);
    }

    private static PointHouse chainOfKinds() {
        PointHouse h = new PointHouse();
        for (int kind = 0; kind < 8; kind++) {
            h.kind(kind - 1);
        }
        return h;
    }

    private void noFunctionAtAll() {
        says(0, "a KIND has a FUNCTION for an ACT, or none:");
        PointHouse h = chainOfKinds();
        for (int kind = 0; kind < 8; kind++) {
            due("no aim at first, kind " + kind, h.aim(kind, 0), NONE);
        }
        h.has(7, 0, 0);
        due("those above take nothing from below", h.aim(6, 0), NONE);
        due("another act has none", h.aim(7, 1), NONE);
    }

    private void nextAboveThatHasOne() {
        says(0, "it has that of the next KIND above it that has one, then (AIM of a KIND and an ACT).");
        PointHouse h = chainOfKinds();
        h.has(0, 2, 5);
        due("from seven above", h.aim(7, 2), 5);
        h.has(3, 2, 0);
        due("from the next that has one", h.aim(7, 2), 0);
        due("at that one", h.aim(3, 2), 0);
        due("just above that one", h.aim(2, 2), 5);
        h.has(7, 2, 1);
        due("its own", h.aim(7, 2), 1);
        h.has(7, 2, NONE);
        h.has(3, 2, NONE);
        due("none of its own: from above again", h.aim(7, 2), 5);
        h.has(0, 2, NONE);
        due("none above either", h.aim(7, 2), NONE);
    }

    private void hadItself() {
        says(3, "A KIND has a FUNCTION (NONE: none) for an ACT: which it had itself.");
        PointHouse h = new PointHouse();
        h.kind(NONE);
        h.kind(0);
        due("none at first", h.has(0, 0, 5), NONE);
        due("what is above is not its own", h.has(1, 0, 0), NONE);
        due("the first function", h.has(1, 0, NONE), 0);
        due("none was told", h.has(1, 0, NONE), NONE);
        due("the last function", h.has(0, 0, NONE), 5);
        due("none is left", h.aim(1, 0), NONE);
    }

    private void hasRefuses() {
        says(3, "-5: none such.");
        refused(Edges::fresh, "no kind at all", h -> h.has(0, 0, 0), NONE_SUCH);
        for (int kind : outside(0, 2)) {
            refused(Edges::ordinary, "has of kind " + kind, h -> h.has(kind, 0, 5), NONE_SUCH);
        }
        for (int kind : outside(0, 7)) {
            refused(Edges::full, "has of kind " + kind, h -> h.has(kind, 0, NONE), NONE_SUCH);
        }
        for (int act : outside(0, 2)) {
            refused(Edges::ordinary, "has of act " + act, h -> h.has(1, act, 5), NONE_SUCH);
            refused(Edges::full, "has of act " + act, h -> h.has(7, act, NONE), NONE_SUCH);
        }
        for (int function : outside(NONE, 5)) {
            refused(Edges::ordinary, "has of function " + function, h -> h.has(0, 0, function), NONE_SUCH);
        }
    }

    private void aimRefuses() {
        says(4, "AIM of a KIND and an ACT.");
        says(4, "NONE; BAD.");
        refused(Edges::fresh, "no kind at all", h -> h.aim(0, 0), BAD);
        for (int kind : outside(0, 2)) {
            refused(Edges::ordinary, "aim of kind " + kind, h -> h.aim(kind, 0), BAD);
        }
        for (int act : outside(0, 2)) {
            refused(Edges::ordinary, "aim of act " + act, h -> h.aim(0, act), BAD);
        }
        PointHouse h = new PointHouse();
        h.kind(NONE);
        due("none", h.aim(0, 2), NONE);
        h.has(0, 2, 0);
        due("the first function is not none", h.aim(0, 2), 0);
    }

    /** All names that hold something as every function is the aim of one call; s, r and q are the call's. */
    private static int heldByRoles(PointHouse h) {
        for (String text : new String[] {"s=!0", "r=!1", "q=s:0(r)"}) {
            Check.line(h, text);
        }
        int names = 0;
        for (int function = 0; function < 6; function++) {
            h.has(0, 0, function);
            for (int name = 0; name < 20; name++) {
                names |= h.holds(name) != 0 ? 1 << name : 0;
            }
        }
        return names;
    }

    private void namesAtFirst() {
        says(0, "three NAMES of each: SELF, GIVEN, BACK (told; none of them at first).");
        PointHouse h = new PointHouse();
        h.kind(NONE);
        due("none is told", heldByRoles(h), bits('s' - 'a', 'r' - 'a'));
        h.has(0, 0, 0);
        h.names(0, 3, 4, 4);
        due("SELF", h.holds(3), 1);
        due("GIVEN", h.holds(4), 2);
        due("BACK", h.holds('q' - 'a'), 2);
    }

    private void functions() {
        says(0, "FUNCTIONS 0 .. 5:");
        PointHouse h = new PointHouse();
        h.kind(NONE);
        for (int function = 0; function < 6; function++) {
            due("names of " + function, h.names(function, 2 * function, 2 * function + 1, NONE), 1);
            due("has " + function, h.has(0, 0, function), function - 1);
        }
        int all = (1 << 12) - 1;
        due("each has names of its own", heldByRoles(h), all | bits('s' - 'a', 'r' - 'a'));
        due("names of -1", h.names(-1, 0, 0, 0), BAD);
        due("names of 6", h.names(6, 0, 0, 0), BAD);
    }

    private void namesOfAFunction() {
        says(5, "NAMES of a FUNCTION (NONE: none), SELF, GIVEN, BACK: 1.");
        PointHouse h = new PointHouse();
        h.kind(NONE);
        h.has(0, 0, 5);
        for (String text : new String[] {"b=!0", "c=!1", "d=b:0(c)"}) {
            Check.line(h, text);
        }
        due("the first name for all", h.names(5, 0, 0, 0), 1);
        due("it is SELF and GIVEN", h.holds(0), 3);
        due("and BACK", h.holds(3), 3);
        due("the last name for all", h.names(5, 19, 19, 19), 1);
        due("it is all of them", h.holds(19), 3);
        due("the one told ahead is none of them", h.holds(0), 0);
        due("none for all", h.names(5, NONE, NONE, NONE), 1);
        due("no name then", h.holds(19), 0);
        due("nothing comes back", h.holds(3), 0);
        due("SELF alone", h.names(5, 19, NONE, NONE), 1);
        due("holds the called", h.holds(19), 1);
        due("GIVEN alone", h.names(5, NONE, 19, NONE), 1);
        due("holds the given", h.holds(19), 2);
        due("BACK alone", h.names(5, NONE, NONE, 1), 1);
        due("gives what that name holds", h.holds(3), 1);
    }

    private void namesRefuses() {
        says(5, "BAD.");
        for (int function : outside(0, 5)) {
            refusedInAll("names of " + function, h -> h.names(function, 0, 1, 2), BAD);
        }
        for (int name : outside(NONE, 19)) {
            refusedInAll("SELF " + name, h -> h.names(0, name, 1, 2), BAD);
            refusedInAll("GIVEN " + name, h -> h.names(0, 1, name, 2), BAD);
            refusedInAll("BACK " + name, h -> h.names(0, 1, 2, name), BAD);
        }
    }

    private void itselfOrUnder() {
        says(6, "Whether a KIND is another one, or under it (1, 0).");
        PointHouse h = chainOfKinds();
        for (int kind = 0; kind < 8; kind++) {
            for (int other = 0; other < 8; other++) {
                due("under " + kind + " " + other, h.under(kind, other), kind >= other ? 1 : 0);
            }
        }
        PointHouse g = new PointHouse();
        g.kind(NONE);
        g.kind(NONE);
        g.kind(0);
        due("beside", g.under(1, 0), 0);
        due("under the one", g.under(2, 0), 1);
        due("not under the other", g.under(2, 1), 0);
    }

    private void underRefuses() {
        says(6, "BAD.");
        refused(Edges::fresh, "no kind at all", h -> h.under(0, 0), BAD);
        for (int kind : outside(0, 2)) {
            refused(Edges::ordinary, "under " + kind, h -> h.under(kind, 0), BAD);
            refused(Edges::ordinary, "other " + kind, h -> h.under(0, kind), BAD);
            refused(Edges::ordinary, "both " + kind, h -> h.under(kind, kind), BAD);
        }
        for (int kind : outside(0, 7)) {
            refused(Edges::full, "under " + kind, h -> h.under(kind, 0), BAD);
            refused(Edges::full, "other " + kind, h -> h.under(7, kind), BAD);
        }
    }
}
