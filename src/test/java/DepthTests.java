import java.nio.file.Files;
import java.nio.file.Path;
import java.util.ArrayDeque;
import java.util.Deque;
import java.util.Map;
import java.util.Set;
import java.util.TreeMap;
import java.util.TreeSet;
import java.util.regex.Matcher;
import java.util.regex.Pattern;

/**
 * Rules 8 and 11 of the language, looked up in the source: no method calls itself, and calls go eight deep at most.
 * Methods of one name count as one, so what is found is never less than what there is.
 */
public final class DepthTests {
    private static final int MOST_DEEP = 8;
    private static final Pattern METHOD = Pattern.compile(
        "(?ms)^( {4}(?: {4})?)(?:[\\w\\[\\]]+ )*(\\w+)\\([^;{}]*?\\) \\{\n(.*?)^\\1\\}$");
    private static final Pattern CALL = Pattern.compile("(super\\.|Arrays\\.)?\\b(\\w+)\\(");
    private static final Check c = new Check("DepthTests");
    private static final Map<String, Set<String>> called = new TreeMap<>();
    private static final Deque<String> open = new ArrayDeque<>();

    private DepthTests() {
    }

    public static void main(String[] args) throws Exception {
        String text = Files.readString(Path.of(args[0])).replaceAll("(?s)/\\*.*?\\*/", "")
            .replaceAll("//[^\n]*", "").replaceAll("\"[^\"\n]*\"", "TEXT").replaceAll("'[^'\n]+'", "0");
        Matcher methods = METHOD.matcher(text);
        while (methods.find()) {
            called.computeIfAbsent(methods.group(2), name -> new TreeSet<>());
        }
        c.holds("the methods are found", called.size() > 100 && called.keySet().containsAll(Set.of("holds", "allow")));
        methods.reset();
        while (methods.find()) {
            Matcher calls = CALL.matcher(methods.group(3));
            while (calls.find()) {
                if (calls.group(1) == null && called.containsKey(calls.group(2))) {
                    called.get(methods.group(2)).add(calls.group(2));
                }
            }
        }
        for (String name : called.keySet()) {
            int deep = depth(name);
            c.holds(name + " goes " + deep + " deep", deep <= MOST_DEEP);
        }
        c.end();
    }

    private static int depth(String name) {
        c.holds(name + " does not come back to itself by " + open, !open.contains(name));
        if (open.contains(name)) {
            return 1;
        }
        open.push(name);
        int deepest = 0;
        for (String next : called.get(name)) {
            deepest = Math.max(deepest, depth(next));
        }
        open.pop();
        return deepest + 1;
    }
}
