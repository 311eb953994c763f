/** Counts answers that are due, and tells each that is not. */
final class Check {
    private static final int MOST_TOLD = 50;
    private final String suite;
    private int right;
    private int wrong;

    Check(String suite) {
        this.suite = suite;
    }

    void due(String call, long got, long want) {
        if (got == want) {
            right++;
            return;
        }
        wrong++;
        if (wrong <= MOST_TOLD) {
            System.out.println(suite + ": " + call + " answered " + got + ", due is " + want);
        }
    }

    void holds(String what, boolean isSo) {
        due(what, isSo ? 1 : 0, 1);
    }

    void end() {
        System.out.println(suite + ": " + right + " answers as due, " + wrong + " not");
        if (wrong != 0) {
            System.exit(1);
        }
    }

    /** Feeds a text, none longer than the tape has room for, in as few calls as may be. */
    static void feed(PointHouse house, String text) {
        for (int from = 0; from < text.length(); from += 8) {
            String part = text.substring(from, Math.min(text.length(), from + 8));
            house.feed(part.length(), packed(part));
        }
    }

    /** Up to eight signs as a number, the first one lowest. */
    static long packed(String signs) {
        long bytes = 0;
        for (int i = signs.length() - 1; i >= 0; i--) {
            bytes = bytes << 8 | signs.charAt(i);
        }
        return bytes;
    }

    static int line(PointHouse house, String text) {
        return line(house, text, 0, 0);
    }

    static int line(PointHouse house, String text, int thread, int lock) {
        feed(house, text);
        return house.line(thread, lock);
    }

    /** A new house with lines of thread 0 without a lock. */
    static PointHouse house(String... lines) {
        PointHouse house = new PointHouse();
        for (String text : lines) {
            if (line(house, text) < 0) {
                throw new IllegalStateException("no line: " + text);
            }
        }
        return house;
    }

    static int bits(int... places) {
        int all = 0;
        for (int place : places) {
            all |= 1 << place;
        }
        return all;
    }
}
