/**
 * All that a house can be asked, as a text, so that two houses can be held against each other. A house is good for
 * 512 calls, so a look has parts, each of them for a house of its own; the later ones also change what they ask.
 */
final class Look {
    static final int PARTS = 7;
    private static final int NAMES = 20, OBJECTS = 16, KINDS = 8, LINES = 40;
    private final PointHouse h;
    private final StringBuilder answers = new StringBuilder();

    private Look(PointHouse h) {
        this.h = h;
    }

    static String at(PointHouse h, int part) {
        Look look = new Look(h);
        switch (part) {
            case 0: look.atNames(); break;
            case 1: look.atLines(0, LINES / 2); break;
            case 2: look.atLines(LINES / 2, LINES); break;
            case 3: look.atWays(); break;
            case 4: look.atCuts(); break;
            case 5: look.atKinds(); break;
            default: look.atTapeAndSheets();
        }
        return look.answers.toString();
    }

    private void add(long answer) {
        answers.append(answer).append(' ');
    }

    private void atNames() {
        for (int name = 0; name < NAMES; name++) {
            add(h.holds(name));
            add(h.byKinds(name));
            add(h.tooMuch(name));
            add(h.melted(name));
            add(h.seen(name));
            add(h.now(name));
        }
        for (int what = 0; what < 6; what++) {
            add(h.count(what));
        }
        for (int i = -1; i < 9; i++) {
            add(h.race(i));
        }
        add(h.still());
        add(h.dead());
        add(h.leaves());
    }

    private void atLines(int from, int to) {
        for (int line = from; line < to; line++) {
            for (int what = 0; what < 11; what++) {
                add(h.lineTold(line, what));
            }
            add(h.cast(line));
            add(h.aims(line));
        }
    }

    private void atWays() {
        for (int object = 0; object < OBJECTS; object++) {
            for (int name = 0; name < NAMES; name++) {
                add(h.way(object, name));
            }
        }
    }

    private void atCuts() {
        for (int object = 0; object < OBJECTS; object++) {
            for (int field = 0; field < 3; field++) {
                add(h.field(object, field));
                add(h.cut(object, field));
            }
        }
        for (int name = 0; name < NAMES; name++) {
            add(h.same(0, name));
            add(h.ask(name, 40, 0));
        }
    }

    /** What each kind has itself is only told as it is taken away; what a function names, as a call is aimed at it. */
    private void atKinds() {
        for (int kind = 0; kind < KINDS; kind++) {
            for (int other = 0; other < KINDS; other++) {
                add(h.under(kind, other));
            }
            for (int act = 0; act < 3; act++) {
                add(h.aim(kind, act));
                add(h.has(kind, act, -1));
            }
        }
        h.line(0, 0);
        h.kind(-1);
        for (String text : new String[] {"s=!0", "r=!1", "q=s:0(r)"}) {
            add(Check.line(h, text));
        }
        for (int function = 0; function < 6; function++) {
            h.has(0, 0, function);
            for (int name = 0; name < NAMES; name++) {
                add(h.holds(name));
            }
        }
    }

    private void atTapeAndSheets() {
        add(h.line(1, 2));
        for (int what = 0; what < 11; what++) {
            add(h.lineTold(h.count(1) - 1, what));
        }
        for (int sheet = 0; sheet < 4; sheet++) {
            for (int sort = 0; sort < 3; sort++) {
                add(h.taped(sheet, sort, 0, 0));
                add(h.taped(sheet, sort, 39, 1));
                atItems(sheet, sort);
            }
        }
    }

    /** Each item as the letter of a line's x, if it is one. */
    private void atItems(int sheet, int sort) {
        h.line(0, 0);
        for (int i = 0; i < 6 && h.taped(sheet, sort, i, 1) > 0; i++) {
            Check.feed(h, "=a");
            int line = h.line(0, 0);
            add(line);
            add(h.lineTold(line, 1));
        }
    }
}
