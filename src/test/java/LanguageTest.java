import java.io.IOException;
import java.lang.reflect.Field;
import java.lang.reflect.Modifier;
import java.nio.file.Files;
import java.nio.file.Path;
import java.util.HashMap;
import java.util.LinkedHashMap;
import java.util.Map;
import java.util.Set;
import java.util.regex.Matcher;
import java.util.regex.Pattern;

/** What ../shared/LANGUAGE.md asks of the program and can be seen in its text. Run from the project's folder. */
public final class LanguageTest {
    private static final String[] BARRED = {
        "\\bthrow\\b", "\\bthrows\\b", "\\btry\\b", "\\bcatch\\b", "\\bsynchronized\\b", "\\bassert\\b", "->", "::",
        "\\bimport\\b", "\\bpackage\\b", "Exact\\b", "\\bequals\\b", "\\bhashCode\\b", "\\btoString\\b", "\\bdouble\\b",
        "\\bfloat\\b", "\\bThread\\b", "\\bRandom\\b", "\\bfinalize\\b", "\\bnative\\b", "\\bvolatile\\b",
        "\\bSystem\\.(?!arraycopy)", "\\bMath\\.(?!min|max)", "\\bInteger\\.(?!bitCount)"};
    /** A method or constructor: one or two folds in, all of its head on one line. */
    private static final Pattern HEAD = Pattern.compile("( {4}| {8})(?:\\w+(?:\\[\\])? )*(\\w+)\\((.*)\\) \\{");
    private static final int MOST_LINES = 60;
    private static final int MOST_PARAMETERS = 7;
    private static final int MOST_DEEP = 8;
    private static final int MOST_CLASSES = 12;
    private static final int MOST_FIELDS = 20;
    private static final Set<Class<?>> CONSTANTS = Set.of(int.class, long.class, boolean.class, char.class,
            String.class, int[].class, long[].class, char[].class, byte[].class);

    private final Map<String, String> bodies = new LinkedHashMap<>();
    private final Map<String, Integer> deep = new HashMap<>();

    public static void main(String[] args) throws IOException {
        String source = Files.readString(Path.of("src/main/java/GridStarts.java"));
        Check.isTrue("plain signs alone", source.chars().allMatch(c -> c < 128));
        String code = source.replaceAll("(?s)/\\*.*?\\*/", "").replaceAll("//[^\n]*", "");
        for (String barred : BARRED) {
            Check.isTrue("without " + barred, !Pattern.compile(barred).matcher(code).find());
        }
        LanguageTest test = new LanguageTest();
        test.readMethods(code.split("\n"));
        test.callsAreNotDeep();
        test.onlyConstructorsMake();
        classes();
        Check.end();
    }

    /** Rule 11: short methods of few parameters. No two bear one name, so that calls can be followed by name. */
    private void readMethods(String[] lines) {
        for (int k = 0; k < lines.length; k++) {
            Matcher head = HEAD.matcher(lines[k]);
            if (!head.matches() || lines[k].contains(" class ")) {
                continue;
            }
            String name = head.group(2);
            StringBuilder body = new StringBuilder();
            int first = k + 1;
            for (k = first; !lines[k].equals(head.group(1) + "}"); k++) {
                body.append(lines[k]).append("\n");
            }
            Check.isTrue(name + " is short", k - first <= MOST_LINES);
            Check.isTrue(name + " takes few", head.group(3).split(",").length <= MOST_PARAMETERS);
            Check.isTrue(name + " is the only one so named", bodies.put(name, body.toString()) == null);
        }
        Check.isTrue("methods were found", bodies.size() > 17);
    }

    /** Rules 8 and 11: none calls itself, by whatever way, and calls go at most eight deep. */
    private void callsAreNotDeep() {
        for (String name : bodies.keySet()) {
            int calls = deepest(name);
            Check.isTrue(name + " goes " + calls + " deep", calls <= MOST_DEEP);
        }
    }

    private int deepest(String name) {
        Integer known = deep.get(name);
        if (known != null) {
            return known;
        }
        deep.put(name, MOST_DEEP + 1);
        int below = 0;
        Matcher call = Pattern.compile("\\b(\\w+)\\(").matcher(bodies.get(name));
        while (call.find()) {
            if (bodies.containsKey(call.group(1))) {
                below = Math.max(below, deepest(call.group(1)));
            }
        }
        deep.put(name, below + 1);
        return below + 1;
    }

    /** Rule 12, and the room that all calls share: what is made is made with the object. */
    private void onlyConstructorsMake() {
        for (Map.Entry<String, String> method : bodies.entrySet()) {
            boolean constructor = Character.isUpperCase(method.getKey().charAt(0));
            Check.isTrue(method.getKey() + " makes nothing", constructor || !method.getValue().contains("new "));
        }
    }

    /** Rules 2, 5 and 11: few classes inside, none of them bound to an object, few fields, constants alone static. */
    private static void classes() {
        Class<?>[] inside = GridStarts.class.getDeclaredClasses();
        Check.isTrue("few classes", inside.length + 1 <= MOST_CLASSES);
        fields(GridStarts.class);
        for (Class<?> c : inside) {
            Check.isTrue(c + " has none inside it", c.getDeclaredClasses().length == 0);
            Check.isTrue(c + " is static", Modifier.isStatic(c.getModifiers()));
            fields(c);
        }
    }

    private static void fields(Class<?> c) {
        int own = 0;
        for (Field field : c.getDeclaredFields()) {
            if (Modifier.isStatic(field.getModifiers())) {
                Check.isTrue(field + " is a constant",
                        Modifier.isFinal(field.getModifiers()) && CONSTANTS.contains(field.getType()));
            } else {
                own++;
            }
        }
        Check.isTrue(c + " has few fields", own <= MOST_FIELDS);
    }
}
