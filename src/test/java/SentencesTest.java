import java.io.IOException;
import java.lang.reflect.Method;
import java.nio.file.Files;
import java.nio.file.Path;
import java.util.ArrayList;
import java.util.Arrays;
import java.util.List;
import java.util.regex.Matcher;
import java.util.regex.Pattern;

/**
 * src/test/SENTENCES.md has every sentence of the document, in its order, and with each of them tests that there are.
 * Run from the project's folder.
 */
public final class SentencesTest {
    private static final Path LIST = Path.of("src/test/SENTENCES.md");
    private static final Path DOCUMENT = Path.of("../shared/DOC.md");
    private static final Pattern TEST = Pattern.compile("(\\w+Test)\\.(\\w+)");

    public static void main(String[] args) throws IOException, ClassNotFoundException {
        List<String> quoted = new ArrayList<>();
        int tests = 0;
        for (String line : Files.readAllLines(LIST)) {
            if (line.startsWith("> ")) {
                Check.isTrue("a line of tests ahead of: " + line, tests == quoted.size());
                quoted.add(line.substring(2));
            } else if (line.startsWith("- ")) {
                tests++;
                testsAreThere(line);
            }
        }
        Check.due("lines of tests", tests, quoted.size());
        if (Files.exists(DOCUMENT)) {
            Check.same("a word of the document", wordsOf(String.join(" ", quoted)), wordsOf(sentences()));
        } else {
            System.out.println("the document is not at " + DOCUMENT + ": its sentences are not looked at");
        }
        Check.end();
    }

    private static void testsAreThere(String line) throws ClassNotFoundException {
        Matcher test = TEST.matcher(line);
        while (test.find()) {
            Method[] methods = Class.forName(test.group(1)).getDeclaredMethods();
            String name = test.group(2);
            Check.isTrue(test.group() + " is there", Arrays.stream(methods).anyMatch(m -> m.getName().equals(name)));
        }
    }

    /** Without headings, the marks of parts, and the face, which FaceTest has. */
    private static String sentences() throws IOException {
        StringBuilder sentences = new StringBuilder();
        boolean face = false;
        for (String line : Files.readAllLines(DOCUMENT)) {
            if (line.startsWith("```")) {
                face = line.equals("```java");
            } else if (!face && !line.startsWith("#")) {
                sentences.append(line.replaceFirst("^=+ \\d+ ", "")).append(" ");
            }
        }
        return sentences.toString();
    }

    private static List<String> wordsOf(String text) {
        return List.of(text.trim().split("\\s+"));
    }
}
