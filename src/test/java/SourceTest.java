import java.io.IOException;
import java.nio.file.Files;
import java.nio.file.Path;
import java.util.ArrayList;
import java.util.List;
import java.util.TreeSet;
import java.util.regex.Matcher;
import java.util.regex.Pattern;

/** What can be read off the source of the rules in LANGUAGE.md. */
public final class SourceTest {
    private SourceTest() {
    }

    public static void main(String[] args) throws IOException {
        String source = Files.readString(Path.of("src/main/java/WallClocks.java"));
        String code = source.replaceAll("(?s)/\\*.*?\\*/", "").replaceAll("//.*", "");
        Check.due("imports", "[java.util.Arrays, java.util.NoSuchElementException]", () -> all(code, "import ([\\w.]+);"));
        Check.due("no package", "[]", () -> all(code, "(package )"));
        Check.due("nothing that is ruled out", "[]", () -> all(code,
                "(\\btry\\b|\\bcatch\\b|\\bfinally\\b|\\bsynchronized\\b|\\bassert\\b|->|::|Exact\\(|\\bvar\\b|_VALUE|\\.equals\\(|hashCode|toString"
                        + "|Object\\b|System\\.(?!arraycopy)\\w+|\\bThread|\\bRandom|\\bdouble\\b|\\bfloat\\b|while \\(true|for \\(;;)"));
        Check.due("the library", "[Arrays.fill, Integer.bitCount, Integer.numberOfTrailingZeros, Math.abs, Math.floorMod, Math.max, Math.min, System.arraycopy]",
                () -> all(code, "\\b((?:Arrays|Integer|Math|Long|System)\\.\\w+)"));
        Check.due("what is thrown", "[IllegalArgumentException, NoSuchElementException]", () -> all(code, "throw new (\\w+)"));
        Check.due("methods of more than sixty lines", "[]", () -> longMethods(source));
        Check.due("signs above 127", "[]", () -> all(source, "([^\\x00-\\x7f])"));
        Check.end();
    }

    private static TreeSet<String> all(String text, String pattern) {
        TreeSet<String> found = new TreeSet<>();
        Matcher matcher = Pattern.compile(pattern).matcher(text);
        while (matcher.find()) {
            found.add(matcher.group(1));
        }
        return found;
    }

    /** A method begins in the file's own way: indented by 4 or 8, with its parameters and brace on one line. */
    private static List<String> longMethods(String source) {
        List<String> found = new ArrayList<>();
        Matcher matcher = Pattern.compile("(?ms)^( {4}| {8})[\\w\\[\\]]+[\\w\\[\\] ]* ?(\\w+)\\([^\\n]*\\{\\n(.*?)^\\1\\}").matcher(source);
        int seen = 0;
        while (matcher.find()) {
            seen++;
            if (matcher.group(3).split("\n").length > 60) {
                found.add(matcher.group(2));
            }
        }
        if (seen < 100) {
            found.add("only " + seen + " methods were found");
        }
        return found;
    }
}
