import java.io.IOException;
import java.nio.file.Files;
import java.nio.file.Path;
import java.util.regex.Pattern;

/** Words and signs that ../shared/LANGUAGE.md leaves out do not stand in the program. Run from the project's folder. */
public final class LanguageTest {
    private static final String[] BARRED = {
        "\\bthrow\\b", "\\bthrows\\b", "\\btry\\b", "\\bcatch\\b", "\\bsynchronized\\b", "\\bassert\\b", "->", "::",
        "\\bimport\\b", "\\bpackage\\b", "Exact\\b", "\\bequals\\b", "\\bhashCode\\b", "\\btoString\\b", "\\bdouble\\b",
        "\\bfloat\\b", "\\bThread\\b", "\\bRandom\\b", "\\bfinalize\\b", "\\bnative\\b", "\\bvolatile\\b",
        "\\bSystem\\.(?!arraycopy)", "\\bMath\\.(?!min|max)", "\\bInteger\\.(?!bitCount)"};

    public static void main(String[] args) throws IOException {
        String source = Files.readString(Path.of("src/main/java/GridStarts.java"));
        String code = source.replaceAll("(?s)/\\*.*?\\*/", "").replaceAll("//[^\n]*", "");
        for (String barred : BARRED) {
            Check.isTrue("without " + barred, !Pattern.compile(barred).matcher(code).find());
        }
        Check.isTrue("plain signs alone", source.chars().allMatch(c -> c < 128));
        Check.end();
    }
}
