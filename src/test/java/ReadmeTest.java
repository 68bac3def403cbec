import java.io.IOException;
import java.lang.reflect.InvocationTargetException;
import java.lang.reflect.Method;
import java.lang.reflect.Modifier;
import java.nio.file.DirectoryStream;
import java.nio.file.Files;
import java.nio.file.Path;
import java.util.Arrays;
import java.util.HashMap;
import java.util.Map;
import java.util.regex.Matcher;
import java.util.regex.Pattern;

/** What README.md says of the class holds; it is run where README.md lies. */
public final class ReadmeTest {
    /** A line as "int first = index.addFable(3, 0, 0);  // 0, its number", behind which stands what is answered. */
    private static final Pattern LINE =
            Pattern.compile("(?:int (\\w+) = )?index\\.(\\w+)\\(([^)]*)\\); +// (throws )?([\\w.-]+?)(,.*)?");

    private ReadmeTest() {
    }

    public static void main(String[] args) throws IOException, ReflectiveOperationException {
        String page = Files.readString(Path.of("README.md"));
        example(page.substring(page.indexOf("```java\n") + 8, page.indexOf("```\n", page.indexOf("```java\n"))));
        namesEachCall(page);
        namesEachTest(page);
        Check.end();
    }

    private static void example(String lines) throws ReflectiveOperationException {
        String[] all = lines.split("\n");
        Check.due("the example begins with a new object",
                all[0].equals("FableIndex index = new FableIndex();"), true);
        FableIndex index = new FableIndex();
        Map<String, Integer> numbers = new HashMap<>();
        for (int n = 1; n < all.length; n++) {
            Matcher line = LINE.matcher(all[n]);
            Check.due("\"" + all[n] + "\" is a call with its answer", line.matches(), true);
            if (line.matches()) {
                String got = answer(index, line.group(2), numbersOf(line.group(3), numbers));
                boolean alike = got.equals((line.group(4) == null ? "" : "throws ") + line.group(5));
                Check.due("\"" + all[n] + "\" answers so, and not " + got, alike, true);
                if (line.group(1) != null) {
                    numbers.put(line.group(1), Integer.valueOf(got));
                }
            }
        }
    }

    private static Object[] numbersOf(String arguments, Map<String, Integer> numbers) {
        String[] texts = arguments.isEmpty() ? new String[0] : arguments.split(", ");
        Object[] with = new Object[texts.length];
        for (int n = 0; n < with.length; n++) {
            with[n] = numbers.containsKey(texts[n]) ? numbers.get(texts[n]) : Integer.valueOf(texts[n]);
        }
        return with;
    }

    private static String answer(FableIndex index, String name, Object[] with) throws ReflectiveOperationException {
        Class<?>[] types = new Class<?>[with.length];
        Arrays.fill(types, int.class);
        try {
            return String.valueOf(FableIndex.class.getMethod(name, types).invoke(index, with));
        } catch (InvocationTargetException e) {
            return "throws " + e.getCause().getClass().getSimpleName();
        }
    }

    /** With as many arguments as it has. */
    private static void namesEachCall(String page) {
        for (Method call : FableIndex.class.getDeclaredMethods()) {
            if (Modifier.isPublic(call.getModifiers())) {
                String more = "(, \\w+){" + Math.max(0, call.getParameterCount() - 1) + "}";
                String arguments = call.getParameterCount() == 0 ? "" : "\\w+" + more;
                Pattern named = Pattern.compile("`" + call.getName() + "\\(" + arguments + "\\)`");
                Check.due("README.md names " + call.getName(), named.matcher(page).find(), true);
            }
        }
    }

    /** In its table, and no test that is not there. */
    private static void namesEachTest(String page) throws IOException {
        int tests = 0;
        try (DirectoryStream<Path> files = Files.newDirectoryStream(Path.of("src", "test", "java"), "*Test.java")) {
            for (Path file : files) {
                String name = file.getFileName().toString().replace(".java", "");
                Check.due("README.md names " + name, page.contains("| `" + name + "` |"), true);
                tests++;
            }
        }
        Matcher named = Pattern.compile("(?m)^\\| `\\w+Test` \\|").matcher(page);
        Check.due("tests that README.md names", named.results().count(), tests);
    }
}
