import java.io.IOException;
import java.lang.reflect.Method;
import java.nio.file.Files;
import java.nio.file.Path;
import java.util.Arrays;
import java.util.Map;
import java.util.TreeSet;
import java.util.regex.Matcher;
import java.util.regex.Pattern;

/** Makes the calls of README.md in their order, and looks whether it names every call of the face. */
public final class ReadmeTest {
    private static final Pattern CALL = Pattern.compile("(?m)^clocks\\.(\\w+)\\(([^)]*)\\);\\s+// (-?\\w+)");
    private static final Pattern TABLE_ROW = Pattern.compile("(?m)^\\| [^|]+ \\| (`.*`) \\|$");

    private ReadmeTest() {
    }

    public static void main(String[] args) throws IOException {
        String readme = Files.readString(Path.of("README.md"));
        Map<String, Method> methods = Calls.methodsOf(WallClocks.class);
        WallClocks clocks = new WallClocks();
        Matcher call = CALL.matcher(readme);
        int made = 0;
        while (call.find()) {
            Method method = methods.get(call.group(1));
            int[] arguments = numbersOf(call.group(2));
            Check.due("README: " + call.group(1) + "(" + call.group(2) + ")", call.group(3), () -> Calls.answer(method, clocks, arguments));
            made++;
        }
        int calls = made;
        Check.due("every call with its answer was found", lines(readme, "clocks."), () -> calls);
        Check.due("the calls in the table", new TreeSet<>(methods.keySet()), () -> inTable(readme));
        Check.end();
    }

    private static long lines(String text, String beginning) {
        return text.lines().filter(line -> line.startsWith(beginning)).count();
    }

    private static int[] numbersOf(String written) {
        return Arrays.stream(written.split(",")).map(String::trim).filter(one -> !one.isEmpty()).mapToInt(Integer::decode).toArray();
    }

    private static TreeSet<String> inTable(String readme) {
        TreeSet<String> found = new TreeSet<>();
        Matcher row = TABLE_ROW.matcher(readme);
        while (row.find()) {
            for (String name : row.group(1).split(", ")) {
                found.add(name.replace("`", ""));
            }
        }
        return found;
    }
}
