import java.io.IOException;
import java.lang.reflect.InvocationTargetException;
import java.lang.reflect.Method;
import java.nio.file.DirectoryStream;
import java.nio.file.Files;
import java.nio.file.Path;
import java.util.HashMap;
import java.util.List;
import java.util.Map;
import java.util.regex.Matcher;
import java.util.regex.Pattern;

/** What README.md says holds: its example, call by call, and that it names every test. */
public final class ReadmeTest extends Checks {
    private static final String NEW_SHEET = "RangeSheet sheet = new RangeSheet();";
    private static final Pattern CALL =
            Pattern.compile("(?:int (\\w+) = )?sheet\\.(\\w+)\\(([^()]*)\\); +// (-?\\d+|true|false)(?:: .*)?");

    public static void main(String[] args) throws IOException {
        String text = Files.readString(Path.of("README.md"));
        example(text.substring(text.indexOf("```java") + 7));
        testsAreNamed(text);
        System.out.println(wrong == 0 ? "what README.md says holds" : wrong + " things in README.md do not hold");
        if (wrong != 0) {
            System.exit(1);
        }
    }

    private static void example(String text) {
        List<String> lines = text.substring(0, text.indexOf("```")).lines().filter(line -> !line.isBlank()).toList();
        due("the example's first line", lines.get(0), NEW_SHEET);
        RangeSheet sheet = new RangeSheet();
        Map<String, String> names = new HashMap<>();
        for (String line : lines.subList(1, lines.size())) {
            Matcher call = CALL.matcher(line);
            if (call.matches()) {
                String got = answer(sheet, call.group(2), call.group(3), names);
                due(line, got, call.group(4));
                names.put(call.group(1), got);
            } else {
                tell("no call with its answer: " + line);
            }
        }
    }

    private static String answer(RangeSheet sheet, String name, String arguments, Map<String, String> names) {
        String[] told = arguments.isEmpty() ? new String[0] : arguments.split(", ");
        for (Method m : RangeSheet.class.getMethods()) {
            if (m.getName().equals(name) && m.getParameterCount() == told.length) {
                return answer(sheet, m, told, names);
            }
        }
        return "no such call";
    }

    private static String answer(RangeSheet sheet, Method m, String[] told, Map<String, String> names) {
        Object[] given = new Object[told.length];
        for (int k = 0; k < told.length; k++) {
            String word = names.getOrDefault(told[k], told[k]);
            given[k] = m.getParameterTypes()[k] == int.class ? (Object) Integer.valueOf(word) : Boolean.valueOf(word);
        }
        try {
            return String.valueOf(m.invoke(sheet, given));
        } catch (InvocationTargetException e) {
            return "throws " + e.getCause();
        } catch (IllegalAccessException e) {
            return "is not public";
        }
    }

    private static void testsAreNamed(String text) throws IOException {
        try (DirectoryStream<Path> tests = Files.newDirectoryStream(Path.of("src/test/java"), "*Test.java")) {
            for (Path test : tests) {
                String name = test.getFileName().toString().replace(".java", "");
                due("README.md names " + name, text.contains("- `" + name + "`: "), true);
            }
        }
    }
}
