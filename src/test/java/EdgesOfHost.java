/** The sentences about the host's sheets and what a line is taken for: promises 31 to 35. */
final class EdgesOfHost extends Edges {
    EdgesOfHost(Check c, Sentences document) {
        super(c, document);
    }

    void all() {
        sheetsAtFirst();
        rowOfASort();
        sheetRefuses();
        sheetSizes();
        lowestBits();
        cellRefuses();
        copiedNumbers();
        ontoItself();
        copyRefuses();
        copyOutside();
        tapedBytes();
        tapedOfNone();
        tapedRefuses();
        tapedOutside();
        tapedFull();
        takenForOneAbove();
        takenRefuses();
    }

    /** An item's lowest byte as a name (behind 0 for a), or the fault of one that is no letter. */
    private static int letterAt(PointHouse h, int sheet, int sort, int i) {
        int told = h.taped(sheet, sort, i, 1);
        Check.feed(h, "=a");
        int line = told == 1 ? h.line(0, 0) : told;
        return line >= 0 ? h.lineTold(line, 1) : line;
    }

    private static PointHouse withSheet(int sort, int n) {
        PointHouse h = new PointHouse();
        h.sheet(0, sort, n);
        for (int i = 0; i < n; i++) {
            h.cell(0, i, 'a' + i % 20);
        }
        return h;
    }

    private void sheetsAtFirst() {
        says(0, "SHEETS 0 .. 3 are rows of numbers, or missing (as all are at first): of sort 0 bytes, 1 shorts, 2"
            + " ints.");
        for (int sheet = 0; sheet < 4; sheet++) {
            PointHouse h = new PointHouse();
            due("missing: cell", h.cell(sheet, 0, 0), MISSING);
            due("missing: copy from", h.copy(sheet, 0, sheet, 0, 0), MISSING);
            for (int sort = 0; sort < 3; sort++) {
                due("missing: taped", h.taped(sheet, sort, 0, 0), MISSING);
            }
            for (int sort = 0; sort < 3; sort++) {
                due("a row", h.sheet(sheet, sort, 1), 1);
                for (int other = 0; other < 3; other++) {
                    due("of its sort", h.taped(sheet, other, 0, 0), other == sort ? 0 : OTHER_SORT);
                }
            }
        }
    }

    private void rowOfASort() {
        says(31, "A SHEET becomes a row of n of a sort, all 0, or missing (sort -1: n does not matter): 1.");
        PointHouse h = withSheet(2, 3);
        due("a letter", letterAt(h, 0, 2, 2), 2);
        due("the same again", h.sheet(0, 2, 3), 1);
        for (int i = 0; i < 3; i++) {
            due("is all 0: item " + i, letterAt(h, 0, 2, i), -100);
        }
        due("longer", h.sheet(0, 0, 40), 1);
        for (int i = 0; i < 40; i++) {
            due("all 0 to its end: item " + i, letterAt(h, 0, 0, i), -100);
        }
        for (int n : new int[] {0, 40, 41, -1, LEAST, MOST}) {
            due("a row", h.sheet(1, 0, 1), 1);
            due("missing, n " + n, h.sheet(1, NONE, n), 1);
            due("nothing is there", h.cell(1, 0, 0), MISSING);
            due("missing once more, n " + n, h.sheet(1, NONE, n), 1);
        }
        PointHouse g = withSheet(0, 2);
        g.sheet(0, NONE, 2);
        g.sheet(0, 0, 2);
        due("all 0 behind having been missing", letterAt(g, 0, 0, 0), -100);
    }

    private void sheetRefuses() {
        says(31, "BAD: no such SHEET, sort; n above 40; -14.");
        for (int sheet : outside(0, 3)) {
            refusedInAll("sheet " + sheet, h -> h.sheet(sheet, 0, 1), BAD);
            refused(Edges::ordinary, "missing sheet " + sheet, h -> h.sheet(sheet, NONE, 1), BAD);
            refused(Edges::ordinary, "BAD ahead of -14: sheet " + sheet, h -> h.sheet(sheet, 0, -1), BAD);
        }
        for (int sort : outside(NONE, 2)) {
            refusedInAll("sheet of sort " + sort, h -> h.sheet(0, sort, 1), BAD);
            refused(Edges::ordinary, "BAD ahead of -14: sort " + sort, h -> h.sheet(0, sort, -1), BAD);
        }
        for (int n : new int[] {41, 42, MOST}) {
            refusedInAll("sheet of " + n, h -> h.sheet(0, 2, n), BAD);
            refused(Edges::ordinary, "a missing sheet of " + n, h -> h.sheet(3, 0, n), BAD);
        }
        for (int n : new int[] {-1, -2, LEAST}) {
            refusedInAll("sheet of " + n, h -> h.sheet(0, 1, n), BELOW_ZERO);
            refused(Edges::ordinary, "a missing sheet of " + n, h -> h.sheet(3, 0, n), BELOW_ZERO);
        }
    }

    private void sheetSizes() {
        for (int sort = 0; sort < 3; sort++) {
            PointHouse h = new PointHouse();
            due("a row of none", h.sheet(0, sort, 0), 1);
            due("has no item", h.cell(0, 0, 0), OUTSIDE);
            due("a row of 40", h.sheet(0, sort, 40), 1);
            due("has its last item", h.cell(0, 39, 'c'), 1);
            due("which is told", letterAt(h, 0, sort, 39), 2);
            due("and no more", h.cell(0, 40, 0), OUTSIDE);
            due("a shorter row", h.sheet(0, sort, 1), 1);
            due("has one item", h.cell(0, 0, 0), 1);
            due("not two", h.cell(0, 1, 0), OUTSIDE);
        }
    }

    private void lowestBits() {
        says(32, "Item i of a SHEET becomes v (of bytes, shorts its lowest 8, 16 bits): 1.");
        int[] sameByte = {'t', 't' + 256, 't' + 65536, 't' - 256, 't' - 65536, LEAST + 't', MOST - 255 + 't'};
        for (int sort = 0; sort < 3; sort++) {
            PointHouse h = new PointHouse();
            h.sheet(0, sort, 3);
            for (int v : sameByte) {
                due("cell " + v, h.cell(0, 1, v), 1);
                due("the lowest byte of " + v, letterAt(h, 0, sort, 1), 19);
            }
            due("the item ahead stays 0", letterAt(h, 0, sort, 0), -100);
            due("the item behind stays 0", letterAt(h, 0, sort, 2), -100);
            for (int v : new int[] {0, -1, 128, 't' + 128, LEAST, MOST, 't' << 8, 't' << 16, 't' << 24}) {
                due("cell " + v, h.cell(0, 1, v), 1);
                due("no letter: " + v, letterAt(h, 0, sort, 1), -100);
            }
        }
    }

    private void cellRefuses() {
        says(32, "BAD: no such SHEET; -11; -12.");
        for (int sheet : outside(0, 3)) {
            refusedInAll("cell of sheet " + sheet, h -> h.cell(sheet, 0, 1), BAD);
            refused(Edges::ordinary, "BAD ahead of -12: sheet " + sheet, h -> h.cell(sheet, -1, 1), BAD);
        }
        for (int i : new int[] {LEAST, -1, 0, 40, MOST}) {
            refused(Edges::ordinary, "-11 ahead of -12: item " + i, h -> h.cell(3, i, 1), MISSING);
        }
        for (int sheet = 0; sheet < 3; sheet++) {
            int one = sheet;
            for (int i : outside(0, 2 + sheet)) {
                refused(Edges::ordinary, "item " + i + " of " + sheet, h -> h.cell(one, i, 'q'), OUTSIDE);
            }
            for (int i : outside(0, 39)) {
                refused(Edges::full, "item " + i + " of " + sheet, h -> h.cell(one, i, 'q'), OUTSIDE);
            }
        }
        refused(h -> h.sheet(2, 1, 0), "of a row of none", h -> h.cell(2, 0, 'q'), OUTSIDE);
    }

    private void copiedNumbers() {
        says(33, "n numbers of a SHEET, from item i on, come to another one's item j on (as they were): n.");
        for (int sort = 0; sort < 3; sort++) {
            PointHouse h = withSheet(sort, 4);
            h.sheet(3, sort, 5);
            due("none", h.copy(0, 0, 3, 0, 0), 0);
            due("none came", letterAt(h, 3, sort, 0), -100);
            due("the last two to the last two", h.copy(0, 2, 3, 3, 2), 2);
            due("the first of them", letterAt(h, 3, sort, 3), 2);
            due("the second of them", letterAt(h, 3, sort, 4), 3);
            due("the one ahead stays", letterAt(h, 3, sort, 2), -100);
            due("all of them", h.copy(0, 0, 3, 0, 4), 4);
            for (int i = 0; i < 4; i++) {
                due("item " + i, letterAt(h, 3, sort, i), i);
                due("stays where it was", letterAt(h, 0, sort, i), i);
            }
            due("the one behind stays", letterAt(h, 3, sort, 4), 3);
            due("none at both ends", h.copy(0, 4, 3, 5, 0), 0);
        }
        PointHouse most = withSheet(1, 40);
        most.sheet(1, 1, 40);
        due("forty", most.copy(0, 0, 1, 0, 40), 40);
        due("the last", letterAt(most, 1, 1, 39), 19);
    }

    private void ontoItself() {
        for (int sort = 0; sort < 3; sort++) {
            PointHouse up = withSheet(sort, 5);
            due("up by one", up.copy(0, 0, 0, 1, 4), 4);
            PointHouse down = withSheet(sort, 5);
            due("down by one", down.copy(0, 1, 0, 0, 4), 4);
            PointHouse same = withSheet(sort, 5);
            due("to where they are", same.copy(0, 0, 0, 0, 5), 5);
            for (int i = 0; i < 5; i++) {
                due("as they were, up: " + i, letterAt(up, 0, sort, i), Math.max(0, i - 1));
                due("as they were, down: " + i, letterAt(down, 0, sort, i), Math.min(4, i + 1));
                due("as they were: " + i, letterAt(same, 0, sort, i), i);
            }
        }
    }

    private void copyRefuses() {
        says(33, "BAD: no such SHEET; -11; -13: they are of unlike sorts; -12 (also with n below 0).");
        for (int sheet : outside(0, 3)) {
            refusedInAll("copy of sheet " + sheet, h -> h.copy(sheet, 0, 0, 0, 1), BAD);
            refusedInAll("copy to sheet " + sheet, h -> h.copy(0, 0, sheet, 0, 1), BAD);
            refused(Edges::ordinary, "BAD ahead of -11: " + sheet, h -> h.copy(3, 0, sheet, 0, 1), BAD);
            refused(Edges::ordinary, "BAD ahead of -11, first: " + sheet, h -> h.copy(sheet, 0, 3, 0, 1), BAD);
        }
        for (int n : new int[] {-1, 0, 1, MOST}) {
            refused(Edges::ordinary, "missing first, " + n, h -> h.copy(3, 0, 0, 0, n), MISSING);
            refused(Edges::ordinary, "missing other, " + n, h -> h.copy(0, 0, 3, 0, n), MISSING);
            refused(Edges::ordinary, "missing both, " + n, h -> h.copy(3, 0, 3, 0, n), MISSING);
        }
        for (int sheet = 0; sheet < 3; sheet++) {
            int one = sheet;
            int other = (sheet + 1) % 3;
            for (int n : new int[] {-1, 0, 1, MOST}) {
                refused(Edges::ordinary, "unlike sorts, " + n, h -> h.copy(one, 0, other, 0, n), OTHER_SORT);
            }
        }
    }

    /** Sheet 0 has 3 bytes in the ordinary house, sheet 3 five of them here. */
    private static void twoOfBytes(PointHouse h) {
        ordinary(h);
        h.sheet(3, 0, 5);
    }

    private void copyOutside() {
        int[][] wrong = {{0, 0, -1}, {1, 1, -1}, {0, 0, LEAST}, {3, 5, -1}, {-1, 0, 1}, {0, -1, 1}, {-1, 0, 0},
            {0, -1, 0}, {LEAST, 0, 1}, {0, LEAST, 1}, {3, 0, 1}, {0, 5, 1}, {2, 0, 2}, {0, 4, 2}, {0, 0, 4},
            {0, 3, 3}, {4, 0, 0}, {0, 6, 0}, {MOST, 0, 1}, {0, MOST, 1}, {MOST, MOST, 0}, {0, 0, MOST},
            {1, 1, MOST}, {MOST, MOST, MOST}, {-1, -1, 2}, {LEAST, LEAST, LEAST}, {-1, 0, MOST}};
        for (int[] row : wrong) {
            String call = "copy from " + row[0] + " to " + row[1] + ", " + row[2];
            refused(EdgesOfHost::twoOfBytes, call, h -> h.copy(0, row[0], 3, row[1], row[2]), OUTSIDE);
        }
        PointHouse h = new PointHouse();
        twoOfBytes(h);
        due("just inside", h.copy(0, 0, 3, 2, 3), 3);
    }

    private void tapedBytes() {
        says(34, "The lowest bytes of n numbers (0 .. 20) of a SHEET that is taken for one of a sort, from one on, come"
            + " behind THE TAPE: how many it has.");
        String text = "a=b:2(c)";
        for (int sort = 0; sort < 3; sort++) {
            PointHouse h = new PointHouse();
            h.sheet(0, sort, 20);
            for (int i = 0; i < text.length(); i++) {
                h.cell(0, 12 + i, text.charAt(i) | 0x7FFFFF00);
            }
            due("the first three of a line", h.taped(0, sort, 12, 3), 3);
            due("the rest behind them", h.taped(0, sort, 15, 5), 8);
            due("in their order", h.line(0, 0), 0);
            due("a CALL", h.lineTold(0, 0), 4);
            due("behind what was fed", h.feed(2, Check.packed("t=")) + h.taped(0, sort, 12, 1), 2 + 3);
            due("a line of both", h.line(0, 0), 1);
            due("twenty", h.taped(0, sort, 0, 20), 20);
            due("they are 0 at first", h.line(0, 0), -100);
            due("the last one", h.taped(0, sort, 19, 1), 1);
            due("is no line", h.line(0, 0), -100);
        }
    }

    private void tapedOfNone() {
        PointHouse h = withSheet(1, 4);
        for (int from : new int[] {0, 3, 4, 5, -1, LEAST, MOST}) {
            due("none from " + from + " on", h.taped(0, 1, from, 0), 0);
        }
        h.feed(2, 'a');
        due("as many as there are", h.taped(0, 1, 9, 0), 2);
        h.sheet(1, 0, 0);
        due("none of a row of none", h.taped(1, 0, 0, 0), 2);
        PointHouse g = new PointHouse();
        full(g);
        due("a full tape has room for none", g.taped(0, 0, 0, 0), 20);
        due("wherever they would begin", g.taped(0, 0, 41, 0), 20);
    }

    private void tapedRefuses() {
        says(34, "BAD: no such SHEET, sort, n; -13; -11; -12; FULL (none comes then, of these).");
        for (int sheet : outside(0, 3)) {
            refusedInAll("taped of sheet " + sheet, h -> h.taped(sheet, 0, 0, 1), BAD);
        }
        for (int sort : outside(0, 2)) {
            refusedInAll("taped of sort " + sort, h -> h.taped(0, sort, 0, 1), BAD);
            refused(Edges::ordinary, "BAD ahead of -11: sort " + sort, h -> h.taped(3, sort, 0, 0), BAD);
        }
        for (int n : outside(0, 20)) {
            refusedInAll("taped of " + n, h -> h.taped(0, 0, 0, n), BAD);
            refused(Edges::ordinary, "BAD ahead of -13: " + n, h -> h.taped(0, 1, 0, n), BAD);
        }
        for (int n : new int[] {0, 1, 20}) {
            for (int from : new int[] {0, -1, MOST}) {
                refused(Edges::ordinary, "of another sort: " + n, h -> h.taped(0, 1, from, n), OTHER_SORT);
                refused(Edges::ordinary, "of another sort, ints: " + n, h -> h.taped(2, 0, from, n), OTHER_SORT);
                refused(Edges::full, "-13 ahead of FULL: " + n, h -> h.taped(0, 2, from, n), OTHER_SORT);
                refused(Edges::ordinary, "missing: " + n, h -> h.taped(3, 2, from, n), MISSING);
            }
        }
    }

    private void tapedOutside() {
        for (int sheet = 0; sheet < 3; sheet++) {
            int one = sheet;
            int size = 3 + sheet;
            int[][] wrong = {{-1, 1}, {-1, 2}, {LEAST, 1}, {size, 1}, {size - 1, 2}, {0, size + 1}, {0, 20},
                {MOST, 1}, {MOST, 20}, {MOST - 5, 8}, {-20, 20}};
            for (int[] row : wrong) {
                String call = "taped from " + row[0] + ", " + row[1] + " of " + size;
                refused(Edges::ordinary, call, h -> h.taped(one, one, row[0], row[1]), OUTSIDE);
            }
        }
        refused(Edges::full, "-12 ahead of FULL", h -> h.taped(0, 0, 40, 1), OUTSIDE);
        refused(Edges::full, "-12 ahead of FULL, at the end", h -> h.taped(0, 0, 39, 2), OUTSIDE);
        PointHouse h = withSheet(0, 40);
        due("twenty to the end", h.taped(0, 0, 20, 20), 20);
    }

    private void tapedFull() {
        for (int n = 1; n <= 20; n++) {
            int one = n;
            refused(Edges::full, "full: taped of " + n, h -> h.taped(0, 0, 0, one), FULL);
            Story roomForLess = h -> withRoomFor(h, one - 1);
            refused(roomForLess, "one too many of " + n, h -> h.taped(0, 2, 0, one), FULL);
            PointHouse h = new PointHouse();
            withRoomFor(h, n);
            due("just room for " + n, h.taped(0, 2, 0, n), 20);
        }
    }

    /** A tape with room for so many, and a sheet of letters. */
    private static void withRoomFor(PointHouse h, int n) {
        h.sheet(0, 2, 20);
        for (int i = 0; i < 20; i++) {
            h.cell(0, i, 'a' + i);
        }
        Check.feed(h, "a=b:2(c)a=b:2(c)a=b:2(c)".substring(0, 20 - n));
    }

    private void takenForOneAbove() {
        says(35, "A LINE taken for one of SORT k (0 .. 5), or one under that one (also by others between): its x.");
        PointHouse h = Check.house("a=t", "c=t/0", "d=t.0", "e.0=t", "f=t:0(t)", "t=!0");
        int[] x = {0, 2, 3, 4, 5, 19};
        int[][] isUnder = {{0}, {0, 1}, {0, 2}, {0, 2, 3}, {0, 2, 4}, {0, 5}};
        for (int line = 0; line < 6; line++) {
            int sorts = bits(isUnder[line]);
            for (int k = 0; k < 6; k++) {
                int want = (sorts >> k & 1) == 1 ? x[line] : OTHER_SORT;
                due("line " + line + " taken for " + k, h.taken(line, k), want);
            }
        }
        h.turn(3, 0);
        due("a line that is off", h.taken(3, 2), 4);
    }

    private void takenRefuses() {
        says(35, "BAD: k; -11: no such LINE; -13.");
        for (int k : outside(0, 5)) {
            refusedInAll("taken for " + k, h -> h.taken(0, k), BAD);
            refused(Edges::ordinary, "BAD ahead of -11: " + k, h -> h.taken(12, k), BAD);
        }
        for (int k = 0; k < 6; k++) {
            int one = k;
            refused(Edges::fresh, "no line", h -> h.taken(0, one), MISSING);
            for (int line : outside(0, 11)) {
                refused(Edges::ordinary, "-11: line " + line, h -> h.taken(line, one), MISSING);
            }
            for (int line : outside(0, 39)) {
                refused(Edges::full, "-11: line " + line, h -> h.taken(line, one), MISSING);
            }
        }
        refused(Edges::ordinary, "a MAKE is no READ", h -> h.taken(0, 2), OTHER_SORT);
        refused(Edges::ordinary, "a READ is no WRITE", h -> h.taken(7, 3), OTHER_SORT);
    }
}
