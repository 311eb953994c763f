/** The sentences about what names and fields hold: promises 12 to 18. */
final class EdgesOfSets extends Edges {
    EdgesOfSets(Check c, Sentences document) {
        super(c, document);
    }

    void all() {
        leastSets();
        eachPlaceByItself();
        makes();
        gives();
        casts();
        reads();
        writes();
        calls();
        holdsRefuses();
        fieldRefuses();
        roundsAtOnce();
        howManyRounds();
        wayIsLeast();
        wayRefuses();
        oneObjectOfAKind();
        byKindsRefuses();
        howMuchTooMuch();
        tooMuchRefuses();
        quotients();
        budgetPays();
        stillOrSpent();
        askedWhat();
        askRefuses();
    }

    /** Kind 1 is under 0, 2 under 1; 3 stands alone. */
    private static PointHouse withKinds(String... lines) {
        PointHouse h = Check.house(lines);
        h.kind(NONE);
        h.kind(0);
        h.kind(1);
        h.kind(NONE);
        return h;
    }

    private void leastSets() {
        says(0, "HOLDS: for each NAME, and each FIELD of each OBJECT, a set of OBJECTS: the least ones so that for"
            + " each LINE that is ON:");
        PointHouse none = new PointHouse();
        for (int name = 0; name < 20; name++) {
            due("no lines: name " + name, none.holds(name), 0);
        }
        PointHouse round = Check.house("a=b", "b=a", "c=c", "a.0=b", "b=a.0", "d=!0", "d.1=a", "a=d.1");
        for (int name = 0; name < 3; name++) {
            due("what goes round holds nothing by itself: " + name, round.holds(name), 0);
        }
        due("nor does a field", round.field(0, 1), 0);
        PointHouse all = Check.house("a=!0", "b=a");
        due("on", all.holds(1), 1);
        all.turn(1, 0);
        due("a line that is off", all.holds(1), 0);
        all.turn(0, 0);
        due("no line on", all.holds(0), 0);
    }

    /** Writes into one field of the last of some objects: no other place may hold anything by that. */
    private void eachPlaceByItself() {
        for (int object = 0; object < 16; object++) {
            for (int field = 0; field < 3; field++) {
                PointHouse h = new PointHouse();
                for (int i = 0; i <= object; i++) {
                    Check.line(h, (char) ('a' + i) + "=!0");
                }
                char last = (char) ('a' + object);
                Check.line(h, last + "." + field + "=" + last);
                for (int name = 0; name < 20; name++) {
                    due("name " + name, h.holds(name), name <= object ? 1 << name : 0);
                }
                for (int place = 0; place < 3 * (object + 1); place++) {
                    int want = place == 3 * object + field ? 1 << object : 0;
                    due("field place " + place, h.field(place / 3, place % 3), want);
                }
            }
        }
    }

    private void makes() {
        says(0, "MAKE: x holds its OBJECT.");
        PointHouse h = new PointHouse();
        for (int object = 0; object < 16; object++) {
            Check.line(h, (object == 15 ? "t" : "a") + "=!" + object % 8);
        }
        due("fifteen", h.holds(0), 0x7FFF);
        due("the sixteenth", h.holds(19), 0x8000);
        due("no other name", h.holds(1), 0);
    }

    private void gives() {
        says(0, "GIVE: x holds all that y holds.");
        PointHouse h = Check.house("a=!0", "a=!1", "b=a", "c=c", "d=c", "a=a");
        due("all", h.holds(1), 3);
        due("of itself", h.holds(0), 3);
        due("of nothing", h.holds(3), 0);
        due("not the other way", Check.house("a=!0", "a=b").holds(1), 0);
    }

    private void casts() {
        says(0, "CAST: x holds all that y holds of KIND k, or under it.");
        PointHouse h = withKinds("a=!0", "a=!1", "a=!2", "a=!3", "a=!7", "b=a/0", "c=a/1", "d=a/2", "e=a/3", "f=a/7",
            "g=a/6", "h=t/0");
        due("of it, and under it, and two under it", h.holds(1), 7);
        due("one between", h.holds(2), 6);
        due("the lowest", h.holds(3), 4);
        due("one that stands alone", h.holds(4), 8);
        due("one that is not told", h.holds(5), 16);
        due("one that none is of", h.holds(6), 0);
        due("of nothing", h.holds(7), 0);
    }

    private void reads() {
        says(0, "READ: x holds all that FIELD f of each OBJECT that y holds does.");
        PointHouse h = Check.house("a=!0", "b=!0", "c=!0", "a.0=b", "b.0=c", "d=a", "d=b", "e=d.0", "f=d.1", "g=t.0",
            "a=a.0");
        due("of each object", h.holds(4), 6);
        due("another field", h.holds(5), 0);
        due("of nothing", h.holds(6), 0);
        due("into y itself, on and on", h.holds(0), 7);
    }

    private void writes() {
        says(0, "WRITE: FIELD f of each OBJECT that x holds holds all that y holds.");
        PointHouse h = Check.house("a=!0", "b=!0", "a=b", "a.2=a", "t.0=a", "b.1=t");
        due("of the one", h.field(0, 2), 3);
        due("of the other", h.field(1, 2), 3);
        due("of nothing", h.field(0, 0) | h.field(1, 0), 0);
        due("nothing written", h.field(1, 1), 0);
    }

    private void calls() {
        says(0, "CALL: for each OBJECT o that y holds whose KIND has an AIM for m: SELF of that FUNCTION (if it is"
            + " told) holds o, GIVEN (if told) holds all that z holds, x holds all that BACK (if told) holds.");
        PointHouse h = withKinds("a=!0", "a=!1", "a=!3", "b=!2", "c=a:1(b)", "t=b", "d=a:0(b)");
        due("no AIM at all", h.holds(10) | h.holds(2), 0);
        h.has(0, 1, 0);
        due("an AIM of which nothing is told", h.holds(2), 0);
        h.names(0, 10, NONE, NONE);
        due("SELF: only of a KIND with an AIM", h.holds(10), 3);
        h.names(0, NONE, 11, NONE);
        due("SELF is none then", h.holds(10), 0);
        due("GIVEN", h.holds(11), 8);
        h.names(0, NONE, NONE, 19);
        due("BACK", h.holds(2), 8);
        h.has(1, 1, 5);
        h.names(5, 12, 13, 12);
        due("each OBJECT by its own AIM: the one's SELF", h.holds(12), 2);
        due("and what comes back of both", h.holds(2), 10);
        due("another act", h.holds(3), 0);
        h.turn(3, 0);
        due("GIVEN of nothing", h.holds(13), 0);
        PointHouse round = withKinds("a=!0", "a=a:0(a)", "b=t:0(a)");
        round.has(0, 0, 0);
        round.names(0, 0, 0, 0);
        due("x, SELF, GIVEN and BACK in one", round.holds(0), 1);
        due("y holds nothing", round.holds(1), 0);
    }

    private void holdsRefuses() {
        says(12, "OBJECTS (bits) that a NAME holds.");
        says(12, "BAD.");
        for (int name : outside(0, 19)) {
            refusedInAll("holds of name " + name, h -> h.holds(name), BAD);
        }
        PointHouse h = new PointHouse();
        due("nothing", h.holds(0), 0);
        Check.line(h, "a=!0");
        due("the first object", h.holds(0), 1);
    }

    private void fieldRefuses() {
        says(13, "OBJECTS (bits) that a FIELD of an OBJECT holds.");
        says(13, "BAD.");
        refused(Edges::fresh, "no object", h -> h.field(0, 0), BAD);
        for (int object : outside(0, 2)) {
            refused(Edges::ordinary, "field of object " + object, h -> h.field(object, 0), BAD);
        }
        for (int object : outside(0, 15)) {
            refused(Edges::full, "field of object " + object, h -> h.field(object, 2), BAD);
        }
        for (int field : outside(0, 2)) {
            refused(Edges::ordinary, "field " + field, h -> h.field(0, field), BAD);
            refused(Edges::full, "field " + field, h -> h.field(15, field), BAD);
        }
        PointHouse h = new PointHouse();
        for (int i = 0; i < 16; i++) {
            Check.line(h, "a=!0");
        }
        Check.line(h, "a.2=a");
        due("all in the last field of the last object", h.field(15, 2), 0xFFFF);
        due("none in the one ahead", h.field(15, 1), 0);
        due("none behind", h.field(14, 0), 0);
    }

    private static PointHouse chain(boolean isForward) {
        PointHouse h = new PointHouse();
        Check.line(h, "a=!0");
        for (int i = 1; i < 20; i++) {
            int name = isForward ? i : 20 - i;
            Check.line(h, (char) ('a' + name) + "=" + (char) ('a' + name - 1));
        }
        return h;
    }

    /** Ten names walk along ten objects, a field a round; a call of the last object starts the next one's walk. */
    private static PointHouse walks() {
        PointHouse h = new PointHouse();
        h.kind(NONE);
        h.kind(NONE);
        h.has(1, 0, 0);
        h.names(0, NONE, NONE, 0);
        for (char name = 'a'; name <= 'j'; name++) {
            Check.line(h, name + (name == 'j' ? "=!1" : "=!0"));
        }
        for (char name = 'a'; name < 'j'; name++) {
            Check.line(h, name + ".0=" + (char) (name + 1));
        }
        for (char walk = 'k'; walk <= 't'; walk++) {
            Check.line(h, walk == 'k' ? "k=a" : walk + "=" + (char) (walk - 1) + ":0(a)");
            Check.line(h, walk + "=" + walk + ".0");
        }
        return h;
    }

    private void roundsAtOnce() {
        says(0, "ROUNDS: all sets are empty at first; in a ROUND all LINES at once add what they allow by the sets as"
            + " the ROUND begins.");
        PointHouse along = chain(true);
        PointHouse against = chain(false);
        for (int name = 0; name < 20; name++) {
            due("one name a round, along the lines: " + name, along.way(0, name), name + 1);
            due("one name a round, against the lines: " + name, against.way(0, name), name + 1);
        }
        PointHouse fields = Check.house("a=!0", "a.0=a", "b=a.0");
        due("a FIELD a round too", fields.way(0, 1), 3);
        PointHouse h = withKinds("a=!0", "b=a:0(a)");
        h.has(0, 0, 0);
        h.names(0, 10, 11, 11);
        due("SELF in the CALL's round", h.way(0, 10), 2);
        due("GIVEN, too", h.way(0, 11), 2);
        due("what comes BACK only by what it held as the round began", h.way(0, 1), 3);
    }

    private void howManyRounds() {
        says(0, "STILL: how many ROUNDS add anything.");
        says(14, "STILL.");
        due("no lines", new PointHouse().still(), 0);
        due("lines that add nothing", Check.house("a=b", "b=a.0", "a.1=b").still(), 0);
        due("one round", Check.house("a=!0").still(), 1);
        due("all at once in one round", Check.house("a=!0", "b=!1", "c=!2").still(), 1);
        due("a chain of all names", chain(true).still(), 20);
        due("against the lines", chain(false).still(), 20);
        due("a FIELD alone is added last", Check.house("a=!0", "a.0=a").still(), 2);
        due("ten walks, one behind the other", walks().still(), 101);
        PointHouse h = chain(true);
        h.turn(10, 0);
        due("a chain cut off", h.still(), 10);
        h.turn(0, 0);
        due("no MAKE on", h.still(), 0);
        h.turn(0, 1);
        h.turn(10, 1);
        due("all on again", h.still(), 20);
    }

    private void wayIsLeast() {
        says(0, "WAY of an OBJECT to a NAME: the least number of ROUNDS behind which the NAME holds it.");
        PointHouse h = Check.house("a=!0", "b=a", "c=b", "d=c", "d=a", "a=d", "e=!1", "d=e");
        due("its MAKE", h.way(0, 0), 1);
        due("the shortest of two", h.way(0, 3), 2);
        due("not longer by going round", h.way(0, 0), 1);
        due("another object the same name's own way", h.way(1, 3), 2);
        due("and farther round", h.way(1, 0), 3);
        h.turn(4, 0);
        due("the longer one is left", h.way(0, 3), 4);
        PointHouse all = chain(true);
        due("the longest chain of gives", all.way(0, 19), 20);
        PointHouse walks = walks();
        for (int walk = 0; walk < 10; walk++) {
            due("the first object of walk " + walk, walks.way(0, 10 + walk), 2 + 10 * walk);
            due("its last object", walks.way(9, 10 + walk), 11 + 10 * walk);
        }
    }

    private void wayRefuses() {
        says(15, "WAY.");
        says(15, "NONE: it doesn't hold it; BAD.");
        refused(Edges::fresh, "no object", h -> h.way(0, 0), BAD);
        for (int object : outside(0, 2)) {
            refused(Edges::ordinary, "way of object " + object, h -> h.way(object, 0), BAD);
        }
        for (int object : outside(0, 15)) {
            refused(Edges::full, "way of object " + object, h -> h.way(object, 0), BAD);
        }
        for (int name : outside(0, 19)) {
            refused(Edges::ordinary, "way to name " + name, h -> h.way(0, name), BAD);
            refused(Edges::full, "way to name " + name, h -> h.way(15, name), BAD);
        }
        PointHouse h = Check.house("a=!0", "b=!1");
        due("not held, by a name that holds another one", h.way(1, 0), NONE);
        due("not held, by a name that holds none", h.way(1, 19), NONE);
        h.turn(1, 0);
        due("its MAKE is off", h.way(1, 1), NONE);
        h.turn(1, 1);
        due("held again", h.way(1, 1), 1);
    }

    private void oneObjectOfAKind() {
        says(0, "BY KINDS: the same with one OBJECT for all MAKES of a KIND: so the sets are KINDS; a KIND's FIELDS are"
            + " one.");
        PointHouse h = withKinds("a=!0", "b=!0", "c=!7", "a.0=c", "d=b.0", "e=b.1", "f=c/7", "g=d/0");
        due("two MAKES, one KIND", h.byKinds(0) | h.byKinds(1), 1);
        due("the last KIND", h.byKinds(2), 128);
        due("what the one has the other has too", h.byKinds(3), 128);
        due("though not by objects", h.holds(3), 0);
        due("each FIELD by itself", h.byKinds(4), 0);
        due("a CAST to a KIND that is not told", h.byKinds(5), 128);
        due("a CAST that lets nothing through", h.byKinds(6), 0);
        h.turn(2, 0);
        due("a MAKE that is off", h.byKinds(3), 0);
        PointHouse calls = withKinds("a=!1", "b=!2", "c=a:0(b)");
        calls.has(0, 0, 0);
        calls.names(0, 10, 11, 11);
        due("SELF by kinds", calls.byKinds(10), 2);
        due("GIVEN by kinds", calls.byKinds(11), 4);
        due("BACK by kinds", calls.byKinds(2), 4);
        PointHouse all = new PointHouse();
        for (int i = 0; i < 16; i++) {
            Check.line(all, "a=!" + i % 8);
        }
        due("all kinds", all.byKinds(0), 255);
    }

    private void byKindsRefuses() {
        says(16, "KINDS (bits) that a NAME holds BY KINDS.");
        says(16, "BAD.");
        for (int name : outside(0, 19)) {
            refusedInAll("byKinds of name " + name, h -> h.byKinds(name), BAD);
        }
        due("nothing", new PointHouse().byKinds(19), 0);
        due("the first kind", Check.house("t=!0").byKinds(19), 1);
    }

    private void howMuchTooMuch() {
        says(0, "It is TOO MUCH for a NAME by how many KINDS it tells of which the NAME holds no OBJECT.");
        says(17, "By how many KINDS that is TOO MUCH.");
        due("nothing held, nothing told", new PointHouse().tooMuch(0), 0);
        PointHouse h = Check.house("a=!0", "b=!0", "c=!1", "d=!2", "a.0=c", "a.0=d", "e=b.0", "f=a.0");
        due("just what is held", h.tooMuch(5), 0);
        due("the first object", h.tooMuch(0), 0);
        due("two kinds of which it holds none", h.tooMuch(4), 2);
        Check.line(h, "g=!2");
        Check.line(h, "e=g");
        due("one of them by another object", h.tooMuch(4), 1);
        PointHouse all = new PointHouse();
        for (int kind = 0; kind < 8; kind++) {
            Check.line(all, "a=!" + kind);
        }
        for (String text : new String[] {"b=!0", "c=!0", "b.0=a", "d=c.0"}) {
            Check.line(all, text);
        }
        due("by all kinds", all.tooMuch(3), 8);
    }

    private void tooMuchRefuses() {
        says(17, "BAD.");
        for (int name : outside(0, 19)) {
            refusedInAll("tooMuch of name " + name, h -> h.tooMuch(name), BAD);
        }
    }

    private void quotients() {
        says(0, "Quotients are cut.");
        PointHouse h = Check.house("a=!0", "b=a", "c=b.0", "d=c");
        due("price", h.count(5), 6);
        due("still", h.still(), 2);
        due("five sixths of a round", h.ask(1, 5, 2), 0);
        due("a round", h.ask(1, 6, 2), 6);
        due("a round and five sixths", h.ask(1, 11, 2), 6);
        due("two rounds", h.ask(1, 12, 2), 12);
    }

    private void budgetPays() {
        says(0, "ASKED with a BUDGET: after ROUNDS of which each costs WORK of all LINES that are ON; as many as the"
            + " BUDGET pays (no more than add anything).");
        PointHouse h = chain(true);
        for (int rounds = 0; rounds <= 20; rounds++) {
            due("just so much for " + rounds, h.ask(0, 20 * rounds, 2), 20 * rounds);
            due("nearly enough for the next", h.ask(0, 20 * rounds + 19, 2), 20 * rounds);
        }
        due("more than add anything", h.ask(0, 420, 2), 400);
        due("the greatest budget", h.ask(0, 99999, 2), 400);
        h.turn(19, 0);
        due("only lines that are ON cost", h.ask(0, 99999, 2), 19 * 19);
        PointHouse none = new PointHouse();
        due("no line, nothing to pay", none.ask(0, 99999, 2), 0);
        due("lines that add nothing", Check.house("a=b").ask(0, 99999, 2), 0);
        PointHouse off = Check.house("a=!0");
        off.turn(0, 0);
        due("no line on", off.ask(0, 0, 2) + off.ask(0, 99999, 2), 0);
    }

    private void stillOrSpent() {
        says(0, "If STILL (no ROUND behind would add anything): what the NAME holds; else it is SPENT: all OBJECTS"
            + " whose MAKES are ON.");
        PointHouse h = Check.house("a=!0", "b=a", "c=!1", "d=!2");
        h.turn(3, 0);
        due("just STILL", h.ask(1, 6, 1), 0);
        due("what the name holds", h.ask(1, 6, 0), 1);
        due("a name that holds nothing", h.ask(3, 6, 0), 0);
        due("one short of STILL", h.ask(1, 5, 1), 1);
        due("all whose MAKES are ON", h.ask(1, 5, 0), 3);
        due("also if the name holds nothing", h.ask(19, 5, 0), 3);
        due("no budget", h.ask(0, 0, 0), 3);
        h.turn(0, 0);
        due("not one whose MAKE is off", h.ask(0, 0, 0), 2);
        due("no lines: STILL without a round", new PointHouse().ask(0, 0, 1), 0);
        due("and it holds nothing", new PointHouse().ask(0, 0, 0), 0);
        PointHouse none = Check.house("a=b", "b=c.0");
        due("lines that add nothing: STILL", none.ask(0, 0, 1), 0);
        PointHouse one = Check.house("a=!0");
        due("the least WORK, spent", one.ask(1, 0, 0), 1);
        due("the least WORK, still", one.ask(1, 1, 0), 0);
        PointHouse all = new PointHouse();
        for (int i = 0; i < 16; i++) {
            Check.line(all, "a=!0");
        }
        due("sixteen, one round, spent", all.ask(19, 15, 0), 0xFFFF);
        due("sixteen, one round, still", all.ask(19, 16, 0), 0);
    }

    private void askedWhat() {
        says(18, "ASKED with a BUDGET (0 .. 99999): what 0 OBJECTS (bits), 1 whether it is SPENT (1, 0), 2 the WORK"
            + " that was paid.");
        PointHouse h = Check.house("a=!0", "b=!1", "c=b");
        int[][] want = {{0, 3, 1, 0}, {2, 3, 1, 0}, {3, 3, 1, 3}, {5, 3, 1, 3}, {6, 2, 0, 6}, {99999, 2, 0, 6}};
        for (int[] row : want) {
            for (int what = 0; what < 3; what++) {
                due("budget " + row[0] + ", what " + what, h.ask(2, row[0], what), row[what + 1]);
            }
        }
    }

    private void askRefuses() {
        says(18, "BAD.");
        for (int name : outside(0, 19)) {
            refusedInAll("ask of name " + name, h -> h.ask(name, 0, 0), BAD);
        }
        for (int budget : outside(0, 99999)) {
            refusedInAll("ask with budget " + budget, h -> h.ask(0, budget, 0), BAD);
        }
        for (int what : outside(0, 2)) {
            refusedInAll("ask what " + what, h -> h.ask(0, 0, what), BAD);
        }
    }
}
