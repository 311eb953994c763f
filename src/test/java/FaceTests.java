import java.lang.reflect.Field;
import java.lang.reflect.Method;
import java.lang.reflect.Modifier;
import java.nio.file.Files;
import java.nio.file.Path;
import java.util.ArrayList;
import java.util.Arrays;
import java.util.List;
import java.util.Set;
import java.util.TreeSet;
import java.util.regex.Matcher;
import java.util.regex.Pattern;

/** The public face is the document's, and the source keeps to the rules that can be looked up in it. */
public final class FaceTests {
    private static final String[] FACE = {"int kind(int)", "int has(int,int,int)", "int aim(int,int)",
        "int names(int,int,int,int)", "int under(int,int)", "int feed(int,long)", "int line(int,int)",
        "int lineTold(int,int)", "int turn(int,int)", "int in(int,int)", "int holds(int)", "int field(int,int)",
        "int still()", "int way(int,int)", "int byKinds(int)", "int tooMuch(int)", "int ask(int,int,int)",
        "int cast(int)", "int aims(int)", "int dead()", "long cut(int,int)", "int same(int,int)", "int melted(int)",
        "int leaves()", "int race(int)", "int run(int,int)", "int seen(int)", "int now(int)", "int count(int)",
        "int sheet(int,int,int)", "int cell(int,int,int)", "int copy(int,int,int,int,int)",
        "int taped(int,int,int,int)", "int taken(int,int)"};
    private static final String[] FORBIDDEN = {"\\bthrow\\b", "\\bthrows\\b", "\\btry\\b", "\\bcatch\\b",
        "\\bsynchronized\\b", "\\bassert\\b", "->", "::", "@", "Exact\\b", "\\bnew\\s+\\w+\\([^)]*\\)\\s*\\{",
        "\\bhashCode\\b", "\\btoString\\b", "\\bObject\\b", "\\bSystem\\.(?!arraycopy\\b)",
        "\\bimport\\b(?! java\\.util\\.(Arrays|ArrayList|List);)", "\\bprotected\\b"};
    private static final Set<String> LIBRARY = Set.of("Integer.bitCount", "Integer.numberOfTrailingZeros", "Math.min",
        "Math.max", "Arrays.fill", "System.arraycopy");
    private static final int MOST_METHOD_LINES = 60;
    private static final int MOST_PARAMETERS = 7;
    private static final Check c = new Check("FaceTests");

    private FaceTests() {
    }

    public static void main(String[] args) throws Exception {
        face();
        inside();
        source(Files.readString(Path.of(args[0])));
        c.end();
    }

    private static String told(Method m) {
        List<String> types = new ArrayList<>();
        for (Class<?> type : m.getParameterTypes()) {
            types.add(type.getName());
        }
        return m.getReturnType().getName() + " " + m.getName() + "(" + String.join(",", types) + ")";
    }

    private static void face() {
        Class<?> house = PointHouse.class;
        Set<String> open = new TreeSet<>();
        for (Method m : house.getDeclaredMethods()) {
            if (!Modifier.isPrivate(m.getModifiers())) {
                c.holds(m + " is public, no more", m.getModifiers() == Modifier.PUBLIC);
                open.add(told(m));
            }
        }
        c.holds("the methods are the document's: " + open, open.equals(new TreeSet<>(Arrays.asList(FACE))));
        c.holds("public and final", house.getModifiers() == (Modifier.PUBLIC | Modifier.FINAL));
        c.due("one constructor", house.getDeclaredConstructors().length, 1);
        c.due("it is public", house.getDeclaredConstructors()[0].getModifiers(), Modifier.PUBLIC);
        Set<String> constants = new TreeSet<>();
        for (Field f : house.getDeclaredFields()) {
            if (!Modifier.isPrivate(f.getModifiers())) {
                c.due(f + " is a public constant", f.getModifiers(),
                    Modifier.PUBLIC | Modifier.STATIC | Modifier.FINAL);
                constants.add(f.getType() + " " + f.getName());
            }
        }
        c.holds("the constants are the document's: " + constants,
            constants.equals(Set.of("int NONE", "int BAD", "int STATE", "int FULL", "long NO")));
    }

    private static void inside() {
        Class<?>[] inner = PointHouse.class.getDeclaredClasses();
        c.holds("some twelve classes", inner.length < 12);
        for (Class<?> type : inner) {
            c.holds(type + " is static", Modifier.isStatic(type.getModifiers()));
            c.holds(type + " is not public", !Modifier.isPublic(type.getModifiers()));
            dueFields(type);
            dueMethods(type);
        }
        dueFields(PointHouse.class);
        dueMethods(PointHouse.class);
    }

    private static void dueMethods(Class<?> type) {
        Set<String> openNames = new TreeSet<>();
        for (Method m : PointHouse.class.getMethods()) {
            openNames.add(m.getName());
        }
        for (Method m : type.getDeclaredMethods()) {
            c.holds(m + " has few parameters", m.getParameterCount() <= MOST_PARAMETERS);
            c.holds(m + " bears no public name, being private", !Modifier.isPrivate(m.getModifiers())
                || !openNames.contains(m.getName()));
        }
    }

    private static void dueFields(Class<?> type) {
        int own = 0;
        for (Field f : type.getDeclaredFields()) {
            boolean isStatic = Modifier.isStatic(f.getModifiers());
            own += isStatic ? 0 : 1;
            c.holds(f + " is final, being static", !isStatic || Modifier.isFinal(f.getModifiers()));
            c.holds(f + " is a plain constant, being static", !isStatic || f.getType().isPrimitive()
                || f.getType() == String.class);
        }
        c.holds(type + " has some twenty fields", own <= 20);
    }

    private static void source(String text) {
        c.holds("no package", !Pattern.compile("(?m)^package\\b").matcher(text).find());
        String bare = text.replaceAll("(?s)/\\*.*?\\*/", "").replaceAll("//[^\n]*", "")
            .replaceAll("\"[^\"\n]*\"", "TEXT").replaceAll("'[^'\n]+'", "0");
        for (String sign : FORBIDDEN) {
            Matcher m = Pattern.compile(sign).matcher(bare);
            boolean isFound = m.find();
            c.holds("none of " + sign + (isFound ? " but " + m.group() : ""), !isFound);
        }
        Matcher library = Pattern.compile("\\b[A-Z]\\w*\\.\\w+(?=\\()").matcher(bare);
        while (library.find()) {
            c.holds(library.group() + " is one of the library's", LIBRARY.contains(library.group()));
        }
        c.holds("plain signs alone", text.chars().allMatch(sign -> sign > 0 && sign < 128));
        int start = 0;
        String[] rows = text.split("\n");
        for (int i = 0; i < rows.length; i++) {
            if (rows[i].matches(" {4}(?: {4})?[\\w\\[\\] ]+\\(.*\\{")) {
                start = i;
            }
            if (rows[i].matches(" {4}(?: {4})?\\}")) {
                c.holds("row " + (i + 1) + " ends a short method", i - start < MOST_METHOD_LINES
                    || rows[i].startsWith("    }") && !rows[i].startsWith("     "));
            }
        }
    }
}
