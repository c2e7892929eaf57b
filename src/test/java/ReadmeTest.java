import java.io.IOException;
import java.lang.reflect.Method;
import java.nio.file.Files;
import java.nio.file.Path;
import java.util.Arrays;
import java.util.Set;
import java.util.TreeSet;
import java.util.regex.Matcher;
import java.util.regex.Pattern;

/** The example in README.md answers what it says there, and has every call. Run from the project's folder. */
public final class ReadmeTest {
    private static final Pattern CALL = Pattern.compile("grid\\.(\\w+)\\(([-\\d, ]*)\\); +// (-?\\d+).*");

    public static void main(String[] args) throws IOException, ReflectiveOperationException {
        GridStarts grid = new GridStarts();
        Set<String> called = new TreeSet<>();
        for (String line : Files.readAllLines(Path.of("README.md"))) {
            Matcher call = CALL.matcher(line);
            if (call.matches()) {
                called.add(call.group(1));
                Check.due(line, answer(grid, call.group(1), call.group(2)), Integer.parseInt(call.group(3)));
            }
        }
        for (Method method : GridStarts.class.getMethods()) {
            boolean own = method.getDeclaringClass() == GridStarts.class;
            Check.isTrue(method.getName() + " is in the example", !own || called.contains(method.getName()));
        }
        Check.end();
    }

    private static int answer(GridStarts grid, String name, String list) throws ReflectiveOperationException {
        Object[] numbers = list.isEmpty() ? new Object[0]
                : Arrays.stream(list.split(", ")).map(Integer::valueOf).toArray();
        Class<?>[] types = new Class<?>[numbers.length];
        Arrays.fill(types, int.class);
        return (Integer) GridStarts.class.getMethod(name, types).invoke(grid, numbers);
    }
}
