import java.util.Arrays;

/**
 * The document's own words, by promise (0: what stands ahead of promise 1). A test tells which words it is about;
 * they must stand there, and in the end no words may be left of which no test has told.
 */
final class Sentences {
    private static final int PROMISES = 35;
    private final Check c;
    private final String[] texts = new String[PROMISES + 1];
    private final boolean[][] quoted = new boolean[PROMISES + 1][];

    Sentences(Check c, String document) {
        this.c = c;
        String kinds = between(document, "==== 1", "## The public face");
        texts[0] = plain(kinds + between(document, "## Terms\n", "## Promise 1:"));
        for (int p = 1; p <= PROMISES; p++) {
            String next = p < PROMISES ? "## Promise " + (p + 1) + ":" : "## Not promised";
            String whole = between(document, "## Promise " + p + ":", next);
            texts[p] = plain(whole.substring(whole.indexOf("`: ") + 3));
        }
        for (int p = 0; p <= PROMISES; p++) {
            quoted[p] = new boolean[texts[p].length()];
        }
    }

    private static String between(String text, String first, String behind) {
        int from = text.indexOf(first) + first.length();
        return text.substring(from, text.indexOf(behind, from));
    }

    /** Without the marks and headings that say nothing of what the program does. */
    private static String plain(String text) {
        StringBuilder all = new StringBuilder();
        for (String row : text.split("\n")) {
            boolean isMark = row.startsWith("```") || row.startsWith("Ahead of the calls");
            all.append(isMark ? "" : row).append(' ');
        }
        return all.toString().replaceAll("==== \\d", " ").replaceAll("\\s+", " ");
    }

    void says(int promise, String words) {
        int at = texts[promise].indexOf(words);
        c.holds("promise " + promise + " says: " + words, at >= 0);
        for (; at >= 0; at = texts[promise].indexOf(words, at + 1)) {
            Arrays.fill(quoted[promise], at, at + words.length(), true);
        }
    }

    void allTold() {
        for (int p = 0; p <= PROMISES; p++) {
            StringBuilder left = new StringBuilder();
            for (int i = 0; i < quoted[p].length; i++) {
                left.append(quoted[p][i] ? ' ' : texts[p].charAt(i));
            }
            String rest = left.toString().trim().replaceAll(" {2,}", " .. ");
            c.holds("promise " + p + ": no test tells of: " + rest, rest.isEmpty());
        }
    }
}
