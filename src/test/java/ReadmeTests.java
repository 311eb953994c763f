import java.io.File;
import java.lang.reflect.Method;
import java.lang.reflect.Modifier;
import java.nio.file.Files;
import java.nio.file.Path;
import java.util.regex.Matcher;
import java.util.regex.Pattern;

/** README's example answers as it says, and README names each call of the face and each test. */
public final class ReadmeTests {
    private static final int LEAST_CALLS = 40;
    private static final Pattern EXAMPLE = Pattern.compile("(?s)```java\n(.*?)```");
    private static final Pattern CALL = Pattern.compile("house\\.(\\w+)\\((.*?)\\); +// (-?\\d+)(:.*)?");
    private static final Check c = new Check("ReadmeTests");

    private ReadmeTests() {
    }

    public static void main(String[] args) throws Exception {
        String text = Files.readString(Path.of(args[2]));
        Matcher example = EXAMPLE.matcher(text);
        c.holds("there is an example", example.find());
        example(example.group(1).split("\n"));
        for (Method m : PointHouse.class.getDeclaredMethods()) {
            if (Modifier.isPublic(m.getModifiers())) {
                c.holds("README tells of " + m.getName(), text.contains("`" + m.getName() + "`"));
            }
        }
        tests(text);
        c.end();
    }

    private static void example(String[] rows) throws Exception {
        PointHouse house = new PointHouse();
        int calls = 0;
        for (String row : rows) {
            Matcher call = CALL.matcher(row);
            if (call.matches()) {
                calls++;
                c.due(row, answer(house, call.group(1), call.group(2)), Long.parseLong(call.group(3)));
            } else {
                c.holds("a call and its answer: " + row,
                    row.isEmpty() || row.equals("PointHouse house = new PointHouse();"));
            }
        }
        c.holds("the example has " + calls + " calls", calls >= LEAST_CALLS);
    }

    private static long answer(PointHouse house, String name, String list) throws Exception {
        String[] told = list.isEmpty() ? new String[0] : list.split(", ");
        for (Method m : PointHouse.class.getDeclaredMethods()) {
            if (m.getName().equals(name) && Modifier.isPublic(m.getModifiers())) {
                Object[] numbers = new Object[told.length];
                for (int i = 0; i < told.length; i++) {
                    boolean isLong = m.getParameterTypes()[i] == long.class;
                    numbers[i] = isLong ? (Object) number(told[i]) : (Object) (int) number(told[i]);
                }
                return ((Number) m.invoke(house, numbers)).longValue();
            }
        }
        throw new IllegalStateException("no call: " + name);
    }

    private static long number(String told) {
        return told.equals("PointHouse.NONE") ? PointHouse.NONE : Long.decode(told.replace("L", ""));
    }

    private static void tests(String text) {
        String[] files = new File("src/test/java").list();
        c.holds("the tests are found", files != null && files.length > 0);
        for (String file : files == null ? new String[0] : files) {
            if (file.endsWith("Tests.java")) {
                String name = file.replace(".java", "");
                c.holds("README tells of " + name, text.contains("- `" + name + "`"));
            }
        }
    }
}
