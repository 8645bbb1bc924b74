import java.io.IOException;
import java.nio.file.Files;
import java.nio.file.Path;
import java.util.ArrayList;
import java.util.List;
import java.util.regex.Matcher;
import java.util.regex.Pattern;

/** README.md has each method of the document's face, with its exceptions in the document's order. */
public final class ReadmeTest {
    private static final Path DOCUMENT = Path.of("../shared/DOC.md");
    private static final Path README = Path.of("README.md");
    private static final Pattern METHOD = Pattern.compile(
        "^    public ((?:int|double|long) \\w+\\([^)]*\\))(?: throws ([\\w, ]+))?;$", Pattern.MULTILINE);
    private static final Pattern SHORT_NAME = Pattern.compile("\\b(IOOBE|IAE|ISE): ");

    public static void main(String[] args) throws IOException {
        List<String> rows = Files.readAllLines(README);
        Matcher method = METHOD.matcher(Files.readString(DOCUMENT));
        int methods = 0;
        while (method.find()) {
            methods++;
            tells(rows, method.group(1), method.group(2));
        }
        Check.due("methods of the document's face", methods, 19);
        Check.end("ReadmeTest");
    }

    private static void tells(List<String> rows, String call, String exceptions) {
        List<String> told = rows.stream().filter(row -> row.startsWith("| `" + call + "` |")).toList();
        Check.due("rows of README.md for " + call, told.size(), 1);
        for (String row : told) {
            List<String> due = exceptions == null ? List.of() : List.of(exceptions.split(", "));
            Check.isTrue("README.md tells that " + call + " throws " + due, exceptionsOf(row).equals(due));
        }
    }

    private static List<String> exceptionsOf(String row) {
        List<String> found = new ArrayList<>();
        Matcher name = SHORT_NAME.matcher(row);
        while (name.find()) {
            found.add(switch (name.group(1)) {
                case "IOOBE" -> "IndexOutOfBoundsException";
                case "IAE" -> "IllegalArgumentException";
                default -> "IllegalStateException";
            });
        }
        return found;
    }
}
