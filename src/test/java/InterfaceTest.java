import java.io.IOException;
import java.nio.file.Files;
import java.nio.file.Path;
import java.util.ArrayList;
import java.util.HashMap;
import java.util.List;
import java.util.Map;
import java.util.regex.Matcher;
import java.util.regex.Pattern;

/**
 * "Ahead of the calls ... the interface says: ---- ...": the public lines of the program are those of the face, in
 * the document's order, each group behind its heading; it is run where src lies, with ../shared beside the project.
 */
public final class InterfaceTest {
    private static final Path PROGRAM = Path.of("src", "main", "java", "FableIndex.java");
    private static final Path DOCUMENT = Path.of("..", "shared", "DOC.md");

    private InterfaceTest() {
    }

    public static void main(String[] args) throws IOException {
        String document = Files.readString(DOCUMENT);
        List<String> due = faceOf(document);
        Check.due("lines of the document's face, with its headings", due.size(), 1 + 1 + 38 + 6);
        List<String> got = linesOf(Files.readString(PROGRAM));
        for (int n = 0; n < due.size() && n < got.size(); n++) {
            String texts = "\"" + due.get(n) + "\" is line " + n + " of the interface, not \"" + got.get(n) + "\"";
            Check.due(texts, got.get(n).equals(due.get(n)), true);
        }
        Check.due("lines of the program's interface", got.size(), due.size());
        Check.end();
    }

    /** The lines of the face, and ahead of the first call of each group its heading. */
    private static List<String> faceOf(String document) {
        Map<String, String> headings = new HashMap<>();
        Matcher said = Pattern.compile("Ahead of the calls? `(\\w+)`.* the interface says: (---- .*)\\.")
                .matcher(document);
        while (said.find()) {
            headings.put(said.group(1), said.group(2));
        }
        List<String> face = new ArrayList<>();
        int from = document.indexOf("```java\n");
        for (String line : document.substring(from, document.indexOf("```\n", from + 8)).split("\n")) {
            String plain = line.trim().replaceAll("( \\{|;)$", "");
            if (plain.startsWith("public ")) {
                String name = plain.replaceAll("\\(.*", "").replaceAll(".* ", "");
                if (headings.containsKey(name)) {
                    face.add(headings.get(name));
                }
                face.add(plain);
            }
        }
        return face;
    }

    /** The public lines of the program, joined where they go on, and its headings up to the last public line. */
    private static List<String> linesOf(String program) {
        List<String> lines = new ArrayList<>();
        int lastPublic = 0;
        Matcher line = Pattern.compile("(?m)^ *(?:// (---- .*)|(public [^{]*?)\\s*\\{)$").matcher(program);
        while (line.find()) {
            boolean heading = line.group(1) != null;
            lines.add(heading ? line.group(1) : line.group(2).replaceAll("\\s+", " "));
            lastPublic = heading ? lastPublic : lines.size();
        }
        return lines.subList(0, lastPublic);
    }
}
