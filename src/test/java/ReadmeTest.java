import java.io.IOException;
import java.nio.file.Files;
import java.nio.file.Path;
import java.util.HashMap;
import java.util.List;
import java.util.Map;
import java.util.regex.Matcher;
import java.util.regex.Pattern;

/** README.md's example answers what its comments say, and its table names every call of DOC.md's face. */
public final class ReadmeTest {
    private static final String CODE = "```java";
    private static final String CODE_END = "```";
    private static final Pattern CALL = Pattern.compile("(?:int (\\w+) = )?x\\.(\\w+)\\((.*?)\\);(.*)");
    private static final Pattern DUE = Pattern.compile("\\s*// (-?\\d+): .*");
    private static final Pattern FACE = Pattern.compile("\\s*public int (\\w+)\\((.*)\\);");
    private static final Pattern ROW = Pattern.compile("\\| `(\\w+\\(.*\\))` \\| (\\d+) \\| .*");

    private final Checks checks = new Checks("ReadmeTest");
    private final List<String> readme;
    private final List<String> doc;

    private ReadmeTest(List<String> readme, List<String> doc) {
        this.readme = readme;
        this.doc = doc;
    }

    public static void main(String[] args) throws IOException {
        ReadmeTest test = new ReadmeTest(Files.readAllLines(Path.of("README.md")),
                Files.readAllLines(Path.of("../shared/DOC.md")));
        test.example();
        test.table();
        test.checks.end();
    }

    private void example() {
        Run x = new Run(checks);
        Map<String, Integer> names = new HashMap<>();
        int from = readme.indexOf(CODE) + 1;
        int to = from + readme.subList(from, readme.size()).indexOf(CODE_END);
        checks.due("the example's first line", readme.get(from), "GlassTank x = new GlassTank();");
        int withDue = 0;
        for (String line : readme.subList(from + 1, to)) {
            Matcher call = CALL.matcher(line);
            boolean isCall = call.matches();
            checks.holds(line + " is a call", isCall);
            if (!isCall) {
                continue;
            }
            int answer = x.ask(call.group(2), arguments(call.group(3), names));
            if (call.group(1) != null) {
                names.put(call.group(1), answer);
            }
            Matcher due = DUE.matcher(call.group(4));
            if (due.matches()) {
                withDue++;
                checks.due(line, answer, Integer.parseInt(due.group(1)));
            } else {
                checks.holds(line + " is not refused", answer != GlassTank.NO);
            }
        }
        checks.holds("the example tells answers", withDue > 0);
    }

    private static int[] arguments(String text, Map<String, Integer> names) {
        if (text.isEmpty()) {
            return new int[0];
        }
        String[] words = text.split(", ");
        int[] a = new int[words.length];
        for (int i = 0; i < words.length; i++) {
            a[i] = names.containsKey(words[i]) ? names.get(words[i]) : Integer.parseInt(words[i]);
        }
        return a;
    }

    /** The calls with their promises' numbers, in the document's order. */
    private void table() {
        StringBuilder due = new StringBuilder();
        // promise 1 is the constructor's
        int promise = 2;
        for (String line : doc) {
            Matcher face = FACE.matcher(line);
            if (face.matches()) {
                due.append(face.group(1)).append('(').append(face.group(2).replace("int ", "")).append(") ")
                        .append(promise).append('\n');
                promise++;
            }
        }
        StringBuilder told = new StringBuilder();
        for (String line : readme) {
            Matcher row = ROW.matcher(line);
            if (row.matches()) {
                told.append(row.group(1)).append(' ').append(row.group(2)).append('\n');
            }
        }
        checks.due("the table", told.toString(), due.toString());
    }
}
