import java.io.IOException;
import java.nio.file.Files;
import java.nio.file.Path;
import java.util.List;
import java.util.regex.Matcher;
import java.util.regex.Pattern;

/** The rules of LANGUAGE.md that can be read off the lines of the program; it is run where src lies. */
public final class LanguageTest {
    private static final Path PROGRAM = Path.of("src", "main", "java", "FableIndex.java");
    private static final int LONGEST_METHOD = 60;
    private static final String METHOD =
            "\\s{4}(\\s{4})?(public|private|static|int|void|boolean|long|Book|Land)\\b.*\\(.*";

    private LanguageTest() {
    }

    public static void main(String[] args) throws IOException {
        String all = Files.readString(PROGRAM);
        String code = all.replaceAll("(?s)/\\*.*?\\*/", "").replaceAll("//[^\n]*", "");
        Check.test("Rules 1 and 4: no package, no import", () ->
                none(code, "(?m)^\\s*(package|import)\\b"));
        Check.test("Rule 2: no lambda and no method reference", () -> none(code, "->|::"));
        Check.test("Rule 3: no long texts and no signs above 127", () -> none(all, "[^\\x00-\\x7f]|\"\"\""));
        Check.test("Rule 4: of the library Integer.bitCount alone", () ->
                none(code, "\\b(?!FableIndex\\b|Book\\b|Land\\b|Integer\\.bitCount\\()(?<![\"\\w.])[A-Z][a-z]\\w*\\b"
                        + "(?!Exception)(?<!Exception)"));
        Check.test("Rule 5: static fields are final constants", () ->
                none(code, "(?m)^\\s*(private |public )?static (?!final )[\\w\\[\\]]+ \\w+\\s*[;=]"));
        Check.test("Rule 6: exceptions of the listed classes, with a written text", () -> {
            none(code, "\\bthrow\\b(?! new (IllegalState|IllegalArgument|IndexOutOfBounds)Exception\\(\"[^\"]*\"\\);)");
            none(code, "\\b(try|catch|finally|synchronized|assert|equals|hashCode|toString)\\b");
        });
        Check.test("Rule 9: each loop counts against a bound", () -> none(code, "\\b(while|do)\\b"));
        Check.test("Rule 10: texts are not joined by +", () -> none(code, "\"\\s*\\+|\\+\\s*\""));
        Check.test("Rule 11: methods stay short", LanguageTest::methodsStayShort);
        Check.test("Rule 12: objects and rows are made for the fields alone", () -> {
            String forField = "(?! +\\w+ = new (Book\\(\\)|Land\\(\\)|int\\[\\w+\\]);$)";
            none(code, "(?m)^" + forField + ".*\\bnew (?!\\w+Exception).*");
        });
        Check.test("Rule 13: no clock, randomness, file, network, thread or environment", () ->
                none(code, "\\b(System|Random|Thread|Runtime|File|Socket|Math\\.random)\\b"));
        Check.end();
    }

    private static void none(String code, String pattern) {
        Matcher found = Pattern.compile(pattern).matcher(code);
        String first = found.find() ? ", \"" + found.group() + "\"" : "";
        Check.due("what breaks the rule" + first, count(code, pattern), 0);
    }

    private static int count(String code, String pattern) {
        Matcher found = Pattern.compile(pattern).matcher(code);
        int count = 0;
        while (found.find()) {
            count++;
        }
        return count;
    }

    /** A method begins at a line that ends with ") {" or "Exception {", and ends with a brace as far to the right. */
    private static void methodsStayShort() {
        try {
            List<String> lines = Files.readAllLines(PROGRAM);
            for (int first = 0; first < lines.size(); first++) {
                String line = lines.get(first);
                boolean method = line.matches(METHOD);
                if (method && !line.contains(" = ") && !line.trim().endsWith(";")) {
                    String margin = line.substring(0, line.length() - line.stripLeading().length());
                    int last = first;
                    while (!lines.get(last).equals(margin + "}")) {
                        last++;
                    }
                    Check.due(line.trim() + " is short", last - first < LONGEST_METHOD, true);
                }
            }
        } catch (IOException e) {
            Check.fault("the program cannot be read");
        }
    }
}
