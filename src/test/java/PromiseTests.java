/** For each promise what it says, the edges that it names, and wrong inputs. */
public final class PromiseTests {
    private static final int NONE = -1, BAD = -2, STATE = -3, FULL = -4, NONE_SUCH = -5;
    private static final int MISSING = -11, OUTSIDE = -12, OTHER_SORT = -13, BELOW_ZERO = -14;
    private static final int LEAST = Integer.MIN_VALUE, MOST = Integer.MAX_VALUE;
    private static final Check c = new Check("PromiseTests");

    private PromiseTests() {
    }

    public static void main(String[] args) {
        constants();
        p01NewObject();
        p02Kind();
        p03Has();
        p04Aim();
        p05Names();
        p06Under();
        p07Feed();
        p08Line();
        p08Faults();
        p08Full();
        p09LineTold();
        p10Turn();
        p11In();
        p12Holds();
        p12Calls();
        p13Field();
        p14Still();
        p15Way();
        p16ByKinds();
        p17TooMuch();
        p18Ask();
        p19Cast();
        p20Aims();
        p21Dead();
        p22Cut();
        p23Same();
        p24Melted();
        p25Leaves();
        p26Race();
        p26RaceOrder();
        p27Run();
        p27Steps();
        p28Seen();
        p29Now();
        p30Count();
        p31Sheet();
        p32Cell();
        p33Copy();
        p34Taped();
        p35Taken();
        c.end();
    }

    private static void constants() {
        c.due("NONE", PointHouse.NONE, -1);
        c.due("BAD", PointHouse.BAD, -2);
        c.due("STATE", PointHouse.STATE, -3);
        c.due("FULL", PointHouse.FULL, -4);
        c.due("NO", PointHouse.NO, -4611686018427387904L);
    }

    private static void p01NewObject() {
        PointHouse h = new PointHouse();
        for (int what = 0; what < 6; what++) {
            c.due("count of a new object", h.count(what), 0);
        }
        for (int name = 0; name < 20; name++) {
            c.due("holds at first", h.holds(name), 0);
            c.due("byKinds at first", h.byKinds(name), 0);
            c.due("seen at first", h.seen(name), 0);
            c.due("now at first", h.now(name), NONE);
            c.due("melted at first", h.melted(name), name);
        }
        c.due("still at first", h.still(), 0);
        c.due("dead at first", h.dead(), 63);
        c.due("leaves at first", h.leaves(), 0);
        c.due("race at first", h.race(-1), 0);
        for (int sheet = 0; sheet < 4; sheet++) {
            c.due("sheets are missing at first", h.cell(sheet, 0, 0), MISSING);
        }
    }

    private static void p02Kind() {
        PointHouse h = new PointHouse();
        c.due("kind under none told", h.kind(0), BAD);
        c.due("kind(-2)", h.kind(-2), BAD);
        c.due("kind(NONE)", h.kind(NONE), 0);
        c.due("kind under itself", h.kind(1), BAD);
        for (int k = 1; k < 8; k++) {
            c.due("kind", h.kind(k - 1), k);
        }
        c.due("ninth kind", h.kind(NONE), FULL);
        c.due("ninth kind, BAD first", h.kind(8), BAD);
        c.due("BAD changes nothing", h.count(0), 8);
    }

    private static void p03Has() {
        PointHouse h = new PointHouse();
        c.due("has of no kind", h.has(0, 0, 0), NONE_SUCH);
        h.kind(NONE);
        h.kind(0);
        c.due("has", h.has(0, 2, 5), NONE);
        c.due("has: only what it had itself", h.has(1, 2, 3), NONE);
        c.due("has again", h.has(0, 2, 4), 5);
        c.due("has none", h.has(0, 2, NONE), 4);
        c.due("had none", h.has(0, 2, 0), NONE);
        c.due("act 3", h.has(0, 3, 0), NONE_SUCH);
        c.due("act -1", h.has(0, -1, 0), NONE_SUCH);
        c.due("function 6", h.has(0, 0, 6), NONE_SUCH);
        c.due("function -2", h.has(0, 0, -2), NONE_SUCH);
        c.due("kind 2", h.has(2, 0, 0), NONE_SUCH);
        c.due("kind -1", h.has(-1, 0, 0), NONE_SUCH);
        c.due("extremes", h.has(LEAST, MOST, LEAST), NONE_SUCH);
        c.due("refusals change nothing", h.aim(0, 0), NONE);
        c.due("refusals change nothing, act 2", h.aim(0, 2), 0);
    }

    private static void p04Aim() {
        PointHouse h = new PointHouse();
        c.due("aim of no kind", h.aim(0, 0), BAD);
        h.kind(NONE);
        h.kind(0);
        h.kind(1);
        c.due("aim of none", h.aim(2, 0), NONE);
        h.has(0, 0, 3);
        c.due("aim from two above", h.aim(2, 0), 3);
        h.has(1, 0, 4);
        c.due("aim from the next above", h.aim(2, 0), 4);
        c.due("aim above stays", h.aim(0, 0), 3);
        h.has(2, 0, 0);
        c.due("aim of its own", h.aim(2, 0), 0);
        h.has(2, 0, NONE);
        h.has(1, 0, NONE);
        c.due("aim taken back", h.aim(2, 0), 3);
        c.due("another act", h.aim(2, 1), NONE);
        c.due("act 3", h.aim(0, 3), BAD);
        c.due("act -1", h.aim(0, -1), BAD);
        c.due("kind 3", h.aim(3, 0), BAD);
        c.due("kind -1", h.aim(-1, 0), BAD);
    }

    private static void p05Names() {
        PointHouse h = new PointHouse();
        c.due("names", h.names(0, 0, 1, 2), 1);
        c.due("names: none", h.names(5, NONE, NONE, NONE), 1);
        c.due("names: the last", h.names(5, 19, 19, 19), 1);
        c.due("function 6", h.names(6, 0, 0, 0), BAD);
        c.due("function -1", h.names(-1, 0, 0, 0), BAD);
        c.due("self 20", h.names(0, 20, 0, 0), BAD);
        c.due("self -2", h.names(0, -2, 0, 0), BAD);
        c.due("given 20", h.names(0, 0, 20, 0), BAD);
        c.due("given -2", h.names(0, 0, -2, 0), BAD);
        c.due("back 20", h.names(0, 0, 0, 20), BAD);
        c.due("back -2", h.names(0, 0, 0, -2), BAD);
        PointHouse g = withCall();
        c.due("names told anew", g.names(0, 5, NONE, NONE), 1);
        c.due("the new SELF", g.holds(5), 1);
        c.due("the old SELF", g.holds(10), 0);
        c.due("the old GIVEN", g.holds(11), 0);
        c.due("a BAD changes nothing", g.names(0, 6, 6, 20), BAD);
        c.due("the SELF stays", g.holds(5), 1);
        c.due("no half is taken", g.holds(6), 0);
    }

    private static void p06Under() {
        PointHouse h = new PointHouse();
        c.due("under of none", h.under(0, 0), BAD);
        h.kind(NONE);
        h.kind(0);
        h.kind(1);
        h.kind(0);
        c.due("is it", h.under(2, 2), 1);
        c.due("next above", h.under(2, 1), 1);
        c.due("two above", h.under(2, 0), 1);
        c.due("below", h.under(0, 2), 0);
        c.due("beside", h.under(3, 1), 0);
        c.due("kind 4", h.under(4, 0), BAD);
        c.due("other 4", h.under(0, 4), BAD);
        c.due("other NONE", h.under(0, NONE), BAD);
        c.due("kind NONE", h.under(NONE, 0), BAD);
    }

    private static void p07Feed() {
        PointHouse h = new PointHouse();
        c.due("feed 0", h.feed(0, 97), BAD);
        c.due("feed 9", h.feed(9, 97), BAD);
        c.due("feed -1", h.feed(-1, 97), BAD);
        c.due("feed 8", h.feed(8, -1L), 8);
        c.due("feed 8 more", h.feed(8, -1L), 16);
        c.due("feed 5: no room", h.feed(5, 0), FULL);
        c.due("none of them came", h.count(4), 16);
        c.due("feed 4: just room", h.feed(4, 0), 20);
        c.due("feed into a full tape", h.feed(1, 0), FULL);
        c.due("feed BAD ahead of FULL", h.feed(9, 0), BAD);
        PointHouse g = new PointHouse();
        g.feed(3, 0x7F_62_3D_61L);
        c.due("the lowest first, no more than n", g.line(0, 0), 0);
        c.due("x", g.lineTold(0, 1), 0);
        c.due("y", g.lineTold(0, 2), 1);
    }

    private static void p08Line() {
        PointHouse h = new PointHouse();
        Check.feed(h, "a=b");
        c.due("thread 3", h.line(3, 0), BAD);
        c.due("thread -1", h.line(-1, 0), BAD);
        c.due("lock 4", h.line(0, 4), BAD);
        c.due("lock -1", h.line(0, -1), BAD);
        c.due("BAD leaves the tape", h.count(4), 3);
        c.due("a line", h.line(2, 3), 0);
        c.due("the tape is empty", h.count(4), 0);
        c.due("an empty tape", h.line(0, 0), -100);
        c.due("BAD ahead of a FAULT", h.line(3, 0), BAD);
        String[] good = {"t=a", "a=t/7", "a=b/0", "c=d.2", "c.0=d", "t.2=t", "e=f:2(g)", "h=!7", "a=!0"};
        for (int i = 0; i < good.length; i++) {
            c.due(good[i], Check.line(h, good[i]), i + 1);
        }
        c.due("lines", h.count(1), 10);
        c.due("objects", h.count(3), 2);
    }

    private static void p08Faults() {
        String[] texts = {"u=a", "A=b", "a", "a=", "ab", "a b", "a=u", "a=!", "a=!8", "a=!7a", "a=b/", "a=b/8",
            "a=b/7/", "a=b.3", "a=b.", "a=b.0=", "a.3=b", "a.", "a.0", "a.0.", "a.0=", "a.0=u", "a.0=bc", "a=b:",
            "a=b:3", "a=b:0", "a=b:0[", "a=b:0(", "a=b:0(u", "a=b:0(a", "a=b:0(a]", "a=b:0(a)c", "a=bc", "a=b=",
            "=a", " a=b", "a:b", "a=!a", "a=!/", "a=b/:", "a.0=!", "a=`"};
        int[] places = {0, 0, 1, 2, 1, 1, 2, 3, 3, 4, 4, 4,
            5, 4, 4, 5, 2, 2, 3, 3, 4, 4, 5, 4,
            4, 5, 5, 6, 6, 7, 7, 8, 3, 3,
            0, 0, 1, 3, 3, 4, 4, 2};
        for (int i = 0; i < texts.length; i++) {
            PointHouse h = new PointHouse();
            c.due("fault of " + texts[i], Check.line(h, texts[i]), -100 - places[i]);
            c.due("no tape behind " + texts[i], h.count(4), 0);
            c.due("no line by " + texts[i], h.count(1), 0);
        }
        PointHouse h = new PointHouse();
        c.due("a byte above 127", h.feed(3, 0xE13D61L), 3);
        c.due("its fault", h.line(0, 0), -102);
    }

    private static void p08Full() {
        PointHouse h = new PointHouse();
        for (int i = 0; i < 16; i++) {
            c.due("make", Check.line(h, "a=!0"), i);
        }
        c.due("no object more", Check.line(h, "b=!0"), FULL);
        c.due("the tape stays", h.count(4), 4);
        c.due("BAD ahead of FULL", h.line(0, 4), BAD);
        Check.feed(h, "x");
        c.due("with a fault it is no MAKE", h.line(0, 0), -104);
        c.due("and the tape is empty", h.count(4), 0);
        for (int i = 16; i < 40; i++) {
            c.due("others have room", Check.line(h, "b=a"), i);
        }
        c.due("no line more", Check.line(h, "b=c"), FULL);
        c.due("the tape stays there too", h.count(4), 3);
        Check.feed(h, "?");
        c.due("FULL ahead of a FAULT", h.line(0, 0), FULL);
        c.due("the tape stays with its fault", h.count(4), 4);
        c.due("lines", h.count(1), 40);
        c.due("objects", h.count(3), 16);
    }

    private static void p09LineTold() {
        PointHouse h = new PointHouse();
        String[] texts = {"a=b", "c=d/7", "e=f.2", "g.1=h", "i=j:0(k)", "t=!6"};
        int[][] want = {
            {0, 0, 1, NONE, NONE, 0, 0, 1, NONE, 1, NONE},
            {1, 2, 3, 7, NONE, 1, 1, 1, NONE, 2, NONE},
            {2, 4, 5, 2, NONE, 2, 2, 1, NONE, 3, NONE},
            {3, 6, 7, 1, NONE, 0, 3, 1, NONE, 6, NONE},
            {4, 8, 9, 0, 10, 1, 0, 1, NONE, 6, NONE},
            {5, 19, NONE, 6, NONE, 2, 1, 1, NONE, 1, 0}};
        for (int i = 0; i < texts.length; i++) {
            Check.line(h, texts[i], i % 3, i % 4);
        }
        for (int i = 0; i < texts.length; i++) {
            for (int what = 0; what < 11; what++) {
                c.due("lineTold(" + i + ", " + what + ")", h.lineTold(i, what), want[i][what]);
            }
        }
        h.turn(0, 0);
        h.in(0, 5);
        c.due("told off", h.lineTold(0, 7), 0);
        c.due("told in", h.lineTold(0, 8), 5);
        c.due("what 11", h.lineTold(0, 11), BAD);
        c.due("what -1", h.lineTold(0, -1), BAD);
        c.due("line 6", h.lineTold(6, 0), BAD);
        c.due("line -1", h.lineTold(-1, 0), BAD);
        c.due("line 40", h.lineTold(40, 0), BAD);
    }

    private static void p10Turn() {
        PointHouse h = Check.house("a=!0", "b=a");
        c.due("b", h.holds(1), 1);
        c.due("off", h.turn(0, 0), 1);
        c.due("off again", h.turn(0, 0), 0);
        c.due("b without", h.holds(1), 0);
        c.due("the object stays told", h.lineTold(0, 10), 0);
        c.due("on", h.turn(0, 1), 0);
        c.due("on again", h.turn(0, 1), 1);
        c.due("b with", h.holds(1), 1);
        c.due("on 2", h.turn(0, 2), BAD);
        c.due("on -1", h.turn(0, -1), BAD);
        c.due("line 2", h.turn(2, 0), BAD);
        c.due("line -1", h.turn(-1, 0), BAD);
        c.due("still on", h.lineTold(0, 7), 1);
    }

    private static void p11In() {
        PointHouse h = Check.house("a=!0");
        c.due("in", h.in(0, 0), NONE);
        c.due("in again", h.in(0, 5), 0);
        c.due("in none", h.in(0, NONE), 5);
        c.due("in none again", h.in(0, NONE), NONE);
        c.due("function 6", h.in(0, 6), NONE_SUCH);
        c.due("function -2", h.in(0, -2), NONE_SUCH);
        c.due("line 1", h.in(1, 0), NONE_SUCH);
        c.due("line -1", h.in(-1, 0), NONE_SUCH);
        c.due("unchanged", h.lineTold(0, 8), NONE);
    }

    private static void p12Holds() {
        PointHouse h = new PointHouse();
        h.kind(NONE);
        h.kind(0);
        for (String text : new String[] {"a=!0", "b=!1", "c=a", "c=b", "d=c/1", "e=c/0", "f=c/2", "a.2=b", "g=c.2",
            "h=g.2", "i=!5", "j=i/5", "k=i/0"}) {
            Check.line(h, text);
        }
        c.due("MAKE", h.holds(0), 1);
        c.due("GIVE of two", h.holds(2), 3);
        c.due("CAST to the lower", h.holds(3), 2);
        c.due("CAST to the upper", h.holds(4), 3);
        c.due("CAST to one untold", h.holds(5), 0);
        c.due("READ", h.holds(6), 2);
        c.due("READ of nothing", h.holds(7), 0);
        c.due("an untold kind is itself", h.holds(9), 4);
        c.due("an untold kind is under none", h.holds(10), 0);
        c.due("a kind told later", h.kind(0), 2);
        h.kind(2);
        h.kind(2);
        c.due("its place", h.kind(1), 5);
        c.due("an object's kind, told later, is under", h.holds(10), 4);
        c.due("name 20", h.holds(20), BAD);
        c.due("name -1", h.holds(-1), BAD);
        PointHouse g = Check.house("a=!0", "b=!0", "c=a", "c=b", "c.0=c", "d=c.0", "d.1=a", "e=b.1");
        c.due("a WRITE into both", g.field(1, 0), 3);
        c.due("a READ of both", g.holds(3), 3);
        c.due("round by fields", g.holds(4), 1);
        c.due("the other field", g.field(0, 2), 0);
    }

    private static PointHouse withCall() {
        PointHouse h = new PointHouse();
        h.kind(NONE);
        h.kind(0);
        h.has(0, 0, 0);
        h.has(1, 0, 1);
        h.names(0, 10, 11, 11);
        h.names(1, 12, 13, NONE);
        for (String text : new String[] {"a=!0", "b=!1", "c=a:0(b)", "d=b:0(a)"}) {
            Check.line(h, text);
        }
        return h;
    }

    private static void p12Calls() {
        PointHouse h = withCall();
        c.due("SELF", h.holds(10), 1);
        c.due("GIVEN", h.holds(11), 2);
        c.due("x from BACK", h.holds(2), 2);
        c.due("BACK untold", h.holds(3), 0);
        c.due("SELF of the other", h.holds(12), 2);
        c.due("GIVEN of the other", h.holds(13), 1);
        h.has(1, 0, NONE);
        c.due("the act is taken from above", h.holds(10), 3);
        c.due("and what it is given", h.holds(11), 3);
        c.due("both calls give back", h.holds(3), 3);
        h.has(0, 0, NONE);
        c.due("no aim, nothing", h.holds(2), 0);
        h.has(0, 1, 0);
        c.due("another act", h.holds(10), 0);
        PointHouse g = Check.house("a=!3", "b=a:0(a)");
        for (int i = 0; i < 3; i++) {
            g.kind(NONE);
        }
        g.names(2, 4, 5, 4);
        c.due("an untold kind has no acts", g.holds(1), 0);
        g.kind(0);
        g.has(0, 0, 2);
        c.due("told, it takes one from above", g.holds(1), 1);
        c.due("and gives", g.holds(5), 1);
    }

    private static void p13Field() {
        PointHouse h = Check.house("a=!0", "b=!0", "a.0=b", "a.2=a");
        c.due("field 0", h.field(0, 0), 2);
        c.due("field 1", h.field(0, 1), 0);
        c.due("field 2", h.field(0, 2), 1);
        c.due("of the other", h.field(1, 0), 0);
        c.due("object 2", h.field(2, 0), BAD);
        c.due("object -1", h.field(-1, 0), BAD);
        c.due("field 3", h.field(0, 3), BAD);
        c.due("field -1", h.field(0, -1), BAD);
        h.turn(0, 0);
        c.due("an object whose MAKE is off", h.field(0, 0), 0);
    }

    private static void p14Still() {
        PointHouse h = Check.house("d=c", "c=b", "b=a");
        c.due("nothing adds", h.still(), 0);
        Check.line(h, "a=!0");
        c.due("against the lines' order", h.still(), 4);
        PointHouse g = Check.house("a=!0", "b=a", "c=b", "d=c");
        c.due("along the lines' order: all at once", g.still(), 4);
        PointHouse f = Check.house("a=!0", "a.0=a");
        c.due("a FIELD counts too", f.still(), 2);
        c.due("and the names alone would be still", f.way(0, 0), 1);
    }

    private static void p15Way() {
        PointHouse h = Check.house("a=!0", "b=a", "c=b", "c=a", "d=!1", "d.0=c", "e=d.0");
        c.due("MAKE", h.way(0, 0), 1);
        c.due("GIVE", h.way(0, 1), 2);
        c.due("the shorter way", h.way(0, 2), 2);
        c.due("by a FIELD", h.way(0, 4), 4);
        c.due("not held", h.way(1, 0), NONE);
        c.due("object 2", h.way(2, 0), BAD);
        c.due("object -1", h.way(-1, 0), BAD);
        c.due("name 20", h.way(0, 20), BAD);
        c.due("name -1", h.way(0, -1), BAD);
        h.turn(3, 0);
        c.due("the longer way", h.way(0, 2), 3);
        h.turn(0, 0);
        c.due("no longer held", h.way(0, 1), NONE);
    }

    private static PointHouse twoOfAKind() {
        PointHouse h = new PointHouse();
        h.kind(NONE);
        h.kind(0);
        for (String text : new String[] {"a=!0", "b=!0", "c=!1", "a.0=c", "d=b.0", "e=b", "e=c", "f=e/1", "g=!7",
            "h=d.0", "i=g/7"}) {
            Check.line(h, text);
        }
        return h;
    }

    private static void p16ByKinds() {
        PointHouse h = twoOfAKind();
        c.due("of two makes", h.byKinds(4), 3);
        c.due("the FIELD of a KIND", h.byKinds(3), 2);
        c.due("CAST", h.byKinds(5), 2);
        c.due("an untold kind", h.byKinds(8), 128);
        c.due("nothing", h.byKinds(7), 0);
        c.due("name 20", h.byKinds(20), BAD);
        c.due("name -1", h.byKinds(-1), BAD);
        h.turn(2, 0);
        c.due("a MAKE off", h.byKinds(3), 0);
        PointHouse g = withCall();
        c.due("CALL, SELF", g.byKinds(10), 1);
        c.due("CALL, GIVEN", g.byKinds(13), 1);
        c.due("CALL, x", g.byKinds(2), 2);
        PointHouse f = Check.house("a=!3", "b=!3", "c=!3");
        c.due("a kind above the number of objects' names", f.byKinds(0), 8);
    }

    private static void p17TooMuch() {
        PointHouse h = twoOfAKind();
        c.due("a kind too much", h.tooMuch(3), 1);
        c.due("just enough", h.tooMuch(4), 0);
        c.due("nothing", h.tooMuch(19), 0);
        c.due("name 20", h.tooMuch(20), BAD);
        c.due("name -1", h.tooMuch(-1), BAD);
        PointHouse g = Check.house("a=!0", "b=!0", "c=!1", "d=!2", "a.0=c", "a.0=d", "e=b.0");
        c.due("two kinds too much", g.tooMuch(4), 2);
        Check.line(g, "b.0=d");
        c.due("one of them is held", g.tooMuch(4), 1);
    }

    private static void p18Ask() {
        PointHouse h = Check.house("a=!0", "b=a", "c=b", "d=!1");
        c.due("price", h.count(5), 4);
        c.due("still", h.still(), 3);
        c.due("three rounds pay", h.ask(2, 12, 0), 1);
        c.due("not spent", h.ask(2, 12, 1), 0);
        c.due("paid", h.ask(2, 12, 2), 12);
        c.due("no more than add", h.ask(2, 99999, 2), 12);
        c.due("one short: all objects", h.ask(2, 11, 0), 3);
        c.due("one short: spent", h.ask(2, 11, 1), 1);
        c.due("one short: paid for two rounds", h.ask(2, 11, 2), 8);
        c.due("no budget", h.ask(2, 0, 1), 1);
        c.due("no budget paid", h.ask(2, 0, 2), 0);
        h.turn(3, 0);
        c.due("spent: MAKES that are ON alone", h.ask(2, 0, 0), 1);
        c.due("the price of lines that are ON", h.ask(2, 99, 2), 9);
        for (int i = 0; i < 4; i++) {
            h.turn(i, 0);
        }
        c.due("no lines on: not spent", h.ask(2, 0, 1), 0);
        c.due("no lines on: nothing", h.ask(2, 5, 0), 0);
        c.due("no lines on: nothing paid", h.ask(2, 5, 2), 0);
        PointHouse one = Check.house("a=!0");
        c.due("the least price, paid", one.ask(0, 1, 2), 1);
        c.due("the least price, held", one.ask(0, 1, 0), 1);
        c.due("the least price, spent", one.ask(0, 0, 1), 1);
        c.due("name 20", h.ask(20, 0, 0), BAD);
        c.due("name -1", h.ask(-1, 0, 0), BAD);
        c.due("budget -1", h.ask(0, -1, 0), BAD);
        c.due("budget 100000", h.ask(0, 100000, 0), BAD);
        c.due("what 3", h.ask(0, 0, 3), BAD);
        c.due("what -1", h.ask(0, 0, -1), BAD);
    }

    private static void p19Cast() {
        PointHouse h = new PointHouse();
        h.kind(NONE);
        h.kind(0);
        h.kind(0);
        for (String text : new String[] {"a=!1", "b=!2", "c=a", "c=b", "d=c/1", "d=c/0", "d=a/2", "d=t/1", "d=c/7"}) {
            Check.line(h, text);
        }
        c.due("MAY", h.cast(4), 1);
        c.due("SURE", h.cast(5), 0);
        c.due("FAILS", h.cast(6), 2);
        c.due("of nothing: SURE", h.cast(7), 0);
        c.due("an untold kind FAILS", h.cast(8), 2);
        c.due("a GIVE", h.cast(2), STATE);
        c.due("a MAKE", h.cast(0), STATE);
        c.due("line 9", h.cast(9), BAD);
        c.due("line -1", h.cast(-1), BAD);
        h.turn(4, 0);
        c.due("a CAST that is off", h.cast(4), 1);
    }

    private static void p20Aims() {
        PointHouse h = withCall();
        c.due("aims", h.aims(2), 1);
        c.due("aims of the other", h.aims(3), 2);
        Check.line(h, "a=b");
        c.due("two aims", h.aims(2), 3);
        c.due("a MAKE", h.aims(0), STATE);
        c.due("a GIVE", h.aims(4), STATE);
        Check.line(h, "a=b.0");
        c.due("a READ", h.aims(5), STATE);
        c.due("line 6", h.aims(6), BAD);
        c.due("line -1", h.aims(-1), BAD);
        Check.line(h, "c=a:1(b)");
        c.due("no aim", h.aims(6), 0);
        h.turn(2, 0);
        c.due("a CALL that is off", h.aims(2), 3);
    }

    private static void p21Dead() {
        PointHouse h = withCall();
        c.due("dead", h.dead(), 60);
        h.turn(2, 0);
        c.due("a CALL off", h.dead(), 61);
        h.has(1, 0, NONE);
        c.due("taken from above", h.dead(), 62);
        h.turn(3, 0);
        c.due("all", h.dead(), 63);
    }

    private static void p22Cut() {
        PointHouse h = Check.house("a=!0", "b=a", "c=a", "d=b", "d=c", "e=d", "t=s");
        c.due("the ways part and meet", h.cut(0, 4), Check.bits(0, 5));
        c.due("of a MAKE", h.cut(0, 0), 1);
        c.due("not held", h.cut(0, 19), 0);
        h.turn(1, 0);
        c.due("one way alone", h.cut(0, 4), Check.bits(0, 2, 4, 5));
        c.due("cut changes nothing", h.holds(4), 1);
        c.due("object 1", h.cut(1, 0), PointHouse.NO);
        c.due("object -1", h.cut(-1, 0), PointHouse.NO);
        c.due("name 20", h.cut(0, 20), PointHouse.NO);
        c.due("name -1", h.cut(0, -1), PointHouse.NO);
        PointHouse g = new PointHouse();
        for (int i = 0; i < 36; i++) {
            Check.line(g, "t=s");
        }
        for (String text : new String[] {"a=!0", "b=!0", "b.0=a", "c=b.0"}) {
            Check.line(g, text);
        }
        c.due("lines above 31", g.cut(0, 2), 15L << 36);
        PointHouse f = Check.house("a=!0", "b=a", "c=a", "d=b", "d=c");
        c.due("a line that two ways share", f.cut(0, 3), 1);
        c.due("by more than one way each", Check.house("a=!0", "a=!0", "b=a").cut(0, 1), Check.bits(0, 2));
    }

    private static void p23Same() {
        PointHouse h = Check.house("a=!0", "b=a", "c=!0", "d=a", "d=c", "e=d");
        c.due("same", h.same(0, 1), 1);
        c.due("itself", h.same(0, 0), 1);
        c.due("unlike objects", h.same(0, 2), 0);
        c.due("two objects each", h.same(3, 4), 0);
        c.due("one and two", h.same(0, 3), 0);
        c.due("two and one", h.same(3, 0), 0);
        c.due("nothing", h.same(18, 19), 0);
        c.due("a 20", h.same(20, 0), BAD);
        c.due("b 20", h.same(0, 20), BAD);
        c.due("a -1", h.same(-1, 0), BAD);
        c.due("b -1", h.same(0, -1), BAD);
    }

    private static void p24Melted() {
        PointHouse h = Check.house("c=b", "d=c", "b=d", "e=d", "a=e", "s=t", "t=s", "r=r");
        c.due("b", h.melted(1), 1);
        c.due("c", h.melted(2), 1);
        c.due("d", h.melted(3), 1);
        c.due("only reached", h.melted(4), 4);
        c.due("only reached, too", h.melted(0), 0);
        c.due("t", h.melted(19), 18);
        c.due("itself", h.melted(17), 17);
        h.turn(1, 0);
        c.due("off", h.melted(2), 2);
        c.due("name 20", h.melted(20), BAD);
        c.due("name -1", h.melted(-1), BAD);
        c.due("a CAST is no GIVE", Check.house("a=b", "b=a/0").melted(1), 1);
        c.due("a READ is no GIVE", Check.house("a=b", "b=a.0").melted(1), 1);
        c.due("a WRITE is no GIVE", Check.house("a=b", "b.0=a").melted(1), 1);
        c.due("a CALL is no GIVE", Check.house("a=b", "b=a:0(a)").melted(1), 1);
    }

    private static void p25Leaves() {
        PointHouse h = Check.house("a=!0", "b=!0", "c=!0", "d=!0", "a.0=b", "b.1=c", "e=a");
        c.due("all are in none", h.leaves(), 0);
        for (int i = 0; i < 6; i++) {
            h.in(i, 2);
        }
        c.due("a line in none holds one: its fields go too", h.leaves(), 7);
        h.in(6, 2);
        c.due("all are in one function", h.leaves(), 0);
        h.in(6, 3);
        c.due("another function", h.leaves(), 7);
        h.turn(6, 0);
        c.due("a line that is off", h.leaves(), 0);
        h.in(5, 0);
        c.due("x of a WRITE is a NAME", h.leaves(), Check.bits(1, 2));
        h.in(5, 2);
        h.in(3, 4);
        c.due("only its own MAKE", h.leaves(), 0);
        Check.line(h, "t=d/0");
        c.due("from a function to none", h.leaves(), 8);
        h.turn(3, 0);
        c.due("an object that is not made", h.leaves(), 0);
    }

    private static PointHouse raceHouse(int lockA, int lockB, int threadB, String second) {
        PointHouse h = Check.house("a=!0", "b=a", "c=!0", "a.0=c", "a.1=c");
        Check.line(h, "a.0=c", 1, lockA);
        Check.line(h, second, threadB, lockB);
        for (int i = 3; i < 5; i++) {
            h.turn(i, 0);
        }
        return h;
    }

    private static void p26Race() {
        c.due("WRITE and READ", raceHouse(0, 0, 2, "d=b.0").race(-1), 1);
        c.due("WRITE and WRITE", raceHouse(0, 0, 2, "b.0=c").race(-1), 1);
        c.due("one thread", raceHouse(0, 0, 1, "d=b.0").race(-1), 0);
        c.due("a lock in common", raceHouse(2, 2, 2, "d=b.0").race(-1), 0);
        c.due("unlike locks", raceHouse(2, 3, 2, "d=b.0").race(-1), 1);
        c.due("one without a lock", raceHouse(2, 0, 2, "d=b.0").race(-1), 1);
        c.due("unlike fields", raceHouse(0, 0, 2, "d=b.1").race(-1), 0);
        c.due("unlike objects", raceHouse(0, 0, 2, "d=c.0").race(-1), 0);
        c.due("a CALL", raceHouse(0, 0, 2, "d=b:0(b)").race(-1), 0);
        c.due("a GIVE", raceHouse(0, 0, 2, "d=b").race(-1), 0);
        c.due("a CAST", raceHouse(0, 0, 2, "d=b/0").race(-1), 0);
        c.due("what is written does not matter", raceHouse(0, 0, 2, "c.0=b").race(-1), 0);
        PointHouse h = raceHouse(0, 0, 2, "d=b.0");
        c.due("which", h.race(0), 506);
        c.due("none such", h.race(1), NONE);
        c.due("race -2", h.race(-2), NONE);
        c.due("race least", h.race(LEAST), NONE);
        c.due("race most", h.race(MOST), NONE);
        h.turn(6, 0);
        c.due("off", h.race(-1), 0);
        c.due("none then", h.race(0), NONE);
        PointHouse g = new PointHouse();
        Check.line(g, "a=!0");
        Check.line(g, "b=a.0", 0, 0);
        Check.line(g, "c=a.0", 1, 0);
        c.due("two READS", g.race(-1), 0);
    }

    private static void p26RaceOrder() {
        PointHouse h = new PointHouse();
        Check.line(h, "b=a.0", 0, 0);
        Check.line(h, "a.0=a", 1, 0);
        Check.line(h, "a.0=a", 2, 0);
        Check.line(h, "a=!0");
        for (int i = 4; i < 12; i++) {
            Check.line(h, "t=s");
        }
        Check.line(h, "c=a.0", 0, 0);
        int[] want = {1, 2, 102, 112, 212};
        c.due("how many", h.race(-1), want.length);
        for (int i = 0; i < want.length; i++) {
            c.due("race " + i, h.race(i), want[i]);
        }
        c.due("behind the last", h.race(want.length), NONE);
    }

    private static void p27Run() {
        PointHouse h = new PointHouse();
        c.due("no lines", h.run(0, 0), STATE);
        c.due("BAD ahead of STATE", h.run(0, 501), BAD);
        Check.line(h, "a=!0");
        c.due("seed -1", h.run(-1, 0), BAD);
        c.due("seed 100000", h.run(100000, 0), BAD);
        c.due("n -1", h.run(0, -1), BAD);
        c.due("n 501", h.run(0, 501), BAD);
        c.due("all of them", h.run(0, 500), 500);
        c.due("the largest seed", h.run(99999, 500), 500);
        h.turn(0, 0);
        c.due("off", h.run(0, 500), 0);
        c.due("nothing had", h.now(0), NONE);
        // LOT goes 48271, 182605794, 1291394886: modulo 2 that is 1, 0, 0.
        PointHouse g = Check.house("a=!0", "b=a");
        c.due("one step: b=a", g.run(0, 1), 1);
        c.due("which gives nothing", g.now(1), NONE);
        c.due("a not yet", g.now(0), NONE);
        c.due("two steps", g.run(0, 2), 2);
        c.due("a now", g.now(0), 0);
        c.due("b had it too early", g.now(1), NONE);
    }

    /** What a house with one line on of many does: only that line's steps count. */
    private static int stepsOfLast(PointHouse h, int lines) {
        int steps = 0;
        long lot = 1;
        for (int i = 0; i < 500; i++) {
            lot = lot * 48271 % 2147483647;
            steps += lot % lines == lines - 1 ? 1 : 0;
        }
        for (int i = 0; i + 1 < lines; i++) {
            h.turn(i, 0);
        }
        return steps;
    }

    private static void p27Steps() {
        String[] idle = {"a=b.0", "a.0=b", "a=b:0(c)"};
        for (String text : idle) {
            PointHouse h = Check.house("t=s", "t=s", text);
            stepsOfLast(h, 3);
            c.due("nothing is done by " + text, h.run(0, 500), 0);
        }
        String[] busy = {"a=b", "a=b/0", "a=!0"};
        for (String text : busy) {
            PointHouse h = Check.house("t=s", "t=s", text);
            int steps = stepsOfLast(h, 3);
            c.due("something is done by " + text, h.run(0, 500), steps);
        }
        PointHouse wrongKind = Check.house("a=!1", "b=a/0");
        c.due("a CAST of another kind does nothing", wrongKind.run(3, 500) < 500 ? 1 : 0, 1);
        c.due("and gives nothing", wrongKind.seen(1), 0);
        PointHouse noAim = Check.house("a=!1", "b=a:0(a)");
        c.due("a CALL without an aim does nothing", noAim.run(3, 500), wrongKind.run(3, 500) - castsOfNone(3));
        PointHouse self = Check.house("a=!0", "b=a:0(a)", "c=b");
        self.kind(NONE);
        self.has(0, 0, 0);
        self.names(0, 0, 3, 3);
        self.run(0, 500);
        c.due("a CALL gives back", self.now(2), 0);
        self.names(0, NONE, NONE, NONE);
        self.run(0, 500);
        c.due("x stays without BACK", self.seen(1), 0);
    }

    /** How many casts a run of "a=!1", "b=a/0" does ahead of its first MAKE (those of none). */
    private static int castsOfNone(int seed) {
        long lot = seed + 1;
        int casts = 0;
        for (int i = 0; i < 500; i++) {
            lot = lot * 48271 % 2147483647;
            if (lot % 2 == 0) {
                return casts;
            }
            casts++;
        }
        return casts;
    }

    private static void p28Seen() {
        PointHouse h = Check.house("a=!0", "a=!1", "b=a");
        h.run(7, 500);
        c.due("both at some time", h.seen(0), 3);
        c.due("both given on", h.seen(1), 3);
        c.due("not had", h.seen(2), 0);
        h.run(7, 0);
        c.due("each run begins with nothing", h.seen(0), 0);
        c.due("name 20", h.seen(20), BAD);
        c.due("name -1", h.seen(-1), BAD);
        h.run(7, 500);
        h.run(7, 501);
        c.due("a refused run changes nothing", h.seen(0), 3);
        h.turn(0, 0);
        c.due("the latest run stays", h.seen(0), 3);
        PointHouse g = Check.house("a=!0", "b=a:0(c)");
        g.kind(NONE);
        g.has(0, 0, 0);
        g.names(0, 5, 5, NONE);
        g.run(1, 500);
        c.due("SELF had it, ahead of GIVEN", g.seen(5), 1);
        c.due("and has it no more", g.now(5), NONE);
    }

    private static void p29Now() {
        PointHouse h = Check.house("a=!0", "a.1=a", "b=a.1");
        c.due("ahead of a run", h.now(0), NONE);
        h.run(11, 500);
        c.due("now", h.now(0), 0);
        c.due("by a FIELD", h.now(1), 0);
        h.turn(0, 0);
        c.due("the latest run stays", h.now(0), 0);
        h.run(11, 500);
        c.due("each run begins with nothing", h.now(1), NONE);
        c.due("name 20", h.now(20), BAD);
        c.due("name -1", h.now(-1), BAD);
    }

    private static void p30Count() {
        PointHouse h = Check.house("a=!0", "b=a", "c=a.0", "d=a:0(a)", "e=a/0", "a.0=e", "b=!1");
        h.kind(NONE);
        h.turn(0, 0);
        h.turn(3, 0);
        h.feed(5, 0);
        c.due("kinds", h.count(0), 1);
        c.due("lines", h.count(1), 7);
        c.due("lines on", h.count(2), 5);
        c.due("objects", h.count(3), 2);
        c.due("tape", h.count(4), 5);
        c.due("work", h.count(5), 1 + 3 + 2 + 6 + 1);
        c.due("what 6", h.count(6), BAD);
        c.due("what -1", h.count(-1), BAD);
    }

    private static void p31Sheet() {
        PointHouse h = new PointHouse();
        c.due("bytes", h.sheet(0, 0, 40), 1);
        c.due("none", h.sheet(3, 2, 0), 1);
        c.due("n 41", h.sheet(0, 0, 41), BAD);
        c.due("n -1", h.sheet(0, 0, -1), BELOW_ZERO);
        c.due("n least", h.sheet(0, 2, LEAST), BELOW_ZERO);
        c.due("sort 3", h.sheet(0, 3, 1), BAD);
        c.due("sort -2", h.sheet(0, -2, 1), BAD);
        c.due("BAD ahead of -14", h.sheet(0, 3, -1), BAD);
        c.due("sheet 4", h.sheet(4, 0, 1), BAD);
        c.due("sheet -1", h.sheet(-1, 0, 1), BAD);
        c.due("refusals change nothing", h.cell(0, 39, 5), 1);
        c.due("missing, whatever n is", h.sheet(0, -1, 41), 1);
        c.due("it is missing", h.cell(0, 0, 5), MISSING);
        c.due("missing, n below 0", h.sheet(0, -1, LEAST), 1);
        h.sheet(1, 2, 3);
        h.cell(1, 0, 'a');
        h.sheet(1, 2, 3);
        h.taped(1, 2, 0, 1);
        c.due("all 0 again", h.line(0, 0), -100);
    }

    /** Whether item i of a sheet has 'a' + x as its lowest byte. */
    private static void dueItem(String what, PointHouse h, int sheet, int sort, int i, int x) {
        PointHouse probe = h;
        probe.taped(sheet, sort, i, 1);
        Check.feed(probe, "=a");
        int line = probe.line(0, 0);
        c.due(what, line >= 0 ? probe.lineTold(line, 1) : line, x);
    }

    private static void p32Cell() {
        PointHouse h = new PointHouse();
        c.due("missing", h.cell(0, 0, 0), MISSING);
        for (int sort = 0; sort < 3; sort++) {
            h.sheet(sort, sort, 3);
            c.due("cell", h.cell(sort, 2, 256 + 'c'), 1);
            dueItem("its lowest byte", h, sort, sort, 2, 2);
            c.due("i 3", h.cell(sort, 3, 0), OUTSIDE);
            c.due("i -1", h.cell(sort, -1, 0), OUTSIDE);
            c.due("i most", h.cell(sort, MOST, 0), OUTSIDE);
            c.due("v least", h.cell(sort, 0, LEAST), 1);
        }
        c.due("sheet 4", h.cell(4, 0, 0), BAD);
        c.due("sheet -1", h.cell(-1, 0, 0), BAD);
        h.sheet(0, 0, 0);
        c.due("of a row of none", h.cell(0, 0, 0), OUTSIDE);
    }

    private static void p33Copy() {
        PointHouse h = new PointHouse();
        for (int sheet = 0; sheet < 3; sheet++) {
            h.sheet(sheet, 1, 4);
        }
        for (int i = 0; i < 4; i++) {
            h.cell(0, i, 'a' + i);
        }
        c.due("copy", h.copy(0, 1, 1, 0, 3), 3);
        dueItem("the first", h, 1, 1, 0, 1);
        dueItem("the last", h, 1, 1, 2, 3);
        c.due("onto itself, up", h.copy(0, 0, 0, 1, 3), 3);
        dueItem("as they were, up", h, 0, 1, 3, 2);
        dueItem("as they were, up, the next", h, 0, 1, 1, 0);
        c.due("onto itself, down", h.copy(0, 1, 0, 0, 3), 3);
        dueItem("as they were, down", h, 0, 1, 0, 0);
        dueItem("as they were, down, the next", h, 0, 1, 2, 2);
        c.due("none of them", h.copy(0, 4, 1, 4, 0), 0);
        c.due("n -1", h.copy(0, 0, 1, 0, -1), OUTSIDE);
        c.due("i -1", h.copy(0, -1, 1, 0, 1), OUTSIDE);
        c.due("j -1", h.copy(0, 0, 1, -1, 1), OUTSIDE);
        c.due("past the first's end", h.copy(0, 2, 1, 0, 3), OUTSIDE);
        c.due("past the other's end", h.copy(0, 0, 1, 2, 3), OUTSIDE);
        c.due("i 5, none", h.copy(0, 5, 1, 0, 0), OUTSIDE);
        c.due("sums that wrap", h.copy(0, MOST, 1, MOST, MOST), OUTSIDE);
        c.due("sums that wrap, n", h.copy(0, 1, 1, 1, MOST), OUTSIDE);
        c.due("sheet 4", h.copy(4, 0, 1, 0, 1), BAD);
        c.due("other 4", h.copy(0, 0, 4, 0, 1), BAD);
        c.due("sheet -1", h.copy(-1, 0, 1, 0, 1), BAD);
        c.due("other -1", h.copy(0, 0, -1, 0, 1), BAD);
        c.due("missing other", h.copy(0, 0, 3, 0, 9), MISSING);
        c.due("missing first", h.copy(3, 0, 0, 0, 9), MISSING);
        h.sheet(2, 2, 4);
        c.due("unlike sorts", h.copy(0, 0, 2, 0, 1), OTHER_SORT);
        c.due("unlike sorts ahead of places", h.copy(0, 0, 2, 0, -1), OTHER_SORT);
    }

    private static void p34Taped() {
        PointHouse h = new PointHouse();
        h.sheet(0, 0, 40);
        h.sheet(1, 2, 5);
        c.due("none of them", h.taped(0, 0, 0, 0), 0);
        c.due("none from the end on", h.taped(0, 0, 40, 0), 0);
        for (int from : new int[] {41, -1, LEAST, MOST}) {
            c.due("none from " + from + " on", h.taped(0, 0, from, 0), 0);
        }
        h.sheet(2, 0, 0);
        c.due("none of a sheet of none", h.taped(2, 0, 1, 0), 0);
        c.due("one of a sheet of none", h.taped(2, 0, 0, 1), OUTSIDE);
        c.due("none of another sort", h.taped(2, 1, 9, 0), OTHER_SORT);
        c.due("none of a missing sheet", h.taped(3, 0, 9, 0), MISSING);
        c.due("n 21", h.taped(0, 0, 0, 21), BAD);
        c.due("n -1", h.taped(0, 0, 0, -1), BAD);
        c.due("sort 3", h.taped(0, 3, 0, 1), BAD);
        c.due("sort -1", h.taped(0, -1, 0, 1), BAD);
        c.due("sort -1 of a missing one", h.taped(3, -1, 0, 1), BAD);
        c.due("sheet 4", h.taped(4, 0, 0, 1), BAD);
        c.due("sheet -1", h.taped(-1, 0, 0, 1), BAD);
        c.due("of another sort", h.taped(1, 1, 0, 1), OTHER_SORT);
        c.due("of another sort ahead of places", h.taped(1, 1, 9, 1), OTHER_SORT);
        c.due("missing", h.taped(3, 1, 99, 1), MISSING);
        c.due("from -1", h.taped(0, 0, -1, 1), OUTSIDE);
        c.due("past the end", h.taped(1, 2, 1, 5), OUTSIDE);
        c.due("from most", h.taped(1, 2, MOST, 20), OUTSIDE);
        c.due("twenty", h.taped(0, 0, 20, 20), 20);
        c.due("no room for one", h.taped(1, 2, 0, 1), FULL);
        c.due("no room is needed for none", h.taped(1, 2, 0, 0), 20);
        c.due("no room is needed for none, outside", h.taped(1, 2, 99, 0), 20);
        c.due("places ahead of FULL", h.taped(1, 2, 5, 1), OUTSIDE);
        h.line(0, 0);
        String text = "a=b/7";
        for (int i = 0; i < 5; i++) {
            h.cell(1, i, text.charAt(i) | 0x7FFFFF00);
        }
        h.feed(8, 0);
        h.feed(8, 0);
        c.due("room for four of five", h.taped(1, 2, 0, 5), FULL);
        c.due("none came", h.count(4), 16);
        h.line(0, 0);
        c.due("all five", h.taped(1, 2, 0, 5), 5);
        c.due("in their order, lowest bytes", h.line(0, 0), 0);
        c.due("the last", h.lineTold(0, 3), 7);
    }

    private static void p35Taken() {
        PointHouse h = Check.house("b=a", "c=a/0", "d=a.0", "e.0=a", "f=a:0(a)", "g=!0");
        boolean[][] fits = {
            {true, false, false, false, false, false},
            {true, true, false, false, false, false},
            {true, false, true, false, false, false},
            {true, false, true, true, false, false},
            {true, false, true, false, true, false},
            {true, false, false, false, false, true}};
        for (int line = 0; line < 6; line++) {
            for (int k = 0; k < 6; k++) {
                c.due("taken(" + line + ", " + k + ")", h.taken(line, k), fits[line][k] ? line + 1 : OTHER_SORT);
            }
        }
        c.due("k 6", h.taken(0, 6), BAD);
        c.due("k -1", h.taken(0, -1), BAD);
        c.due("line 6", h.taken(6, 0), MISSING);
        c.due("line -1", h.taken(-1, 0), MISSING);
        c.due("k ahead of the line", h.taken(9, 9), BAD);
        h.turn(0, 0);
        c.due("a line that is off", h.taken(0, 0), 1);
    }
}
