/** What the tests of the document's sentences have in common. */
abstract class Edges {
    static final int NONE = -1, BAD = -2, STATE = -3, FULL = -4, NONE_SUCH = -5;
    static final int MISSING = -11, OUTSIDE = -12, OTHER_SORT = -13, BELOW_ZERO = -14;
    static final int LEAST = Integer.MIN_VALUE, MOST = Integer.MAX_VALUE;
    private final Check c;
    private final Sentences document;

    /** What a house is told ahead of the call that a test is about. */
    interface Story {
        void tell(PointHouse h);
    }

    interface Call {
        long on(PointHouse h);
    }

    Edges(Check c, Sentences document) {
        this.c = c;
        this.document = document;
    }

    abstract void all();

    final void says(int promise, String words) {
        document.says(promise, words);
    }

    final void due(String call, long got, long want) {
        c.due(call, got, want);
    }

    /** A call that is refused: its answer, and that the house is then as one that was not asked. */
    final void refused(Story story, String call, Call asked, long want) {
        for (int part = 0; part < Look.PARTS; part++) {
            PointHouse one = new PointHouse();
            PointHouse other = new PointHouse();
            story.tell(one);
            story.tell(other);
            c.due(call, asked.on(one), want);
            boolean isSame = Look.at(one, part).equals(Look.at(other, part));
            c.holds(call + " changes nothing, part " + part, isSame);
        }
    }

    final void refusedInAll(String call, Call asked, long want) {
        refused(Edges::fresh, "new: " + call, asked, want);
        refused(Edges::ordinary, "ordinary: " + call, asked, want);
        refused(Edges::full, "full: " + call, asked, want);
    }

    /** The nearest numbers that are not within, and the farthest. */
    static int[] outside(int least, int most) {
        return new int[] {least - 1, most + 1, LEAST, MOST};
    }

    static int bits(int... places) {
        return Check.bits(places);
    }

    static void fresh(PointHouse h) {
    }

    /** Some of everything, and room for more of it. */
    static void ordinary(PointHouse h) {
        for (int kind = 0; kind < 3; kind++) {
            h.kind(kind - 1);
            h.has(kind, kind / 2, kind);
        }
        h.names(0, 10, 11, 12);
        h.names(1, 13, 14, NONE);
        h.names(2, NONE, 15, 16);
        String[] texts = {"a=!0", "b=!1", "c=!5", "d=a", "d=b", "e=d/1", "a.0=b", "f=a.0", "g=d:0(b)", "m=b",
            "b.1=c", "h=b.1"};
        for (int i = 0; i < texts.length; i++) {
            Check.line(h, texts[i], i % 3, i % 4);
        }
        h.turn(3, 0);
        h.in(1, 2);
        h.in(7, 0);
        h.run(7, 300);
        for (int sheet = 0; sheet < 3; sheet++) {
            h.sheet(sheet, sheet, 3 + sheet);
            for (int i = 0; i < 3; i++) {
                h.cell(sheet, i, 'b' + 4 * sheet + i);
            }
        }
        Check.feed(h, "a=");
    }

    /** As many kinds, lines, objects, bytes and items as there may be. */
    static void full(PointHouse h) {
        for (int kind = 0; kind < 8; kind++) {
            h.kind(kind - 1);
            h.has(kind, kind % 3, kind % 6);
        }
        for (int function = 0; function < 6; function++) {
            h.names(function, function, function + 6, function + 12);
        }
        for (int i = 0; i < 40; i++) {
            String x = (char) ('a' + i % 20) + "";
            String rest = i < 16 ? "=!" + i % 8 : i % 3 == 0 ? ".1=a" : i % 3 == 1 ? "=b.1" : "=c:0(d)";
            Check.line(h, x + rest, i % 3, i % 4);
        }
        h.turn(39, 0);
        h.in(20, 5);
        h.run(99999, 500);
        Check.feed(h, "a=b/0a=b/0a=b/0a=b/0");
        for (int sheet = 0; sheet < 4; sheet++) {
            h.sheet(sheet, sheet % 3, 40);
            h.cell(sheet, sheet, 'c');
        }
    }

    /** Sixteen objects, but lines left, and one more MAKE upon the tape. */
    static void noObjectLeft(PointHouse h) {
        for (int i = 0; i < 16; i++) {
            Check.line(h, (char) ('a' + i) + "=!" + i % 8);
        }
        Check.feed(h, "t=!7");
    }
}
