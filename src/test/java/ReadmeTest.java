import java.io.IOException;
import java.nio.file.Files;
import java.nio.file.Path;
import java.util.List;
import java.util.regex.Matcher;
import java.util.regex.Pattern;

/** README.md tells every call, and each call of its examples answers what stands beside it. */
public final class ReadmeTest {
    private static final Pattern NEW_OBJECT = Pattern.compile("GroupViews x = new GroupViews\\(\\);");
    private static final Pattern CALL =
        Pattern.compile("x\\.(\\w+)\\((-?\\d+)(?:, (-?\\d+))?\\); +// (-?\\d+)(?::.*)?");

    public static void main(String[] args) throws IOException {
        Path readme = Path.of("README.md");
        lookAtCalls(Files.readString(readme));
        lookAtExamples(Files.readAllLines(readme));
        Checks.end();
    }

    private static void lookAtCalls(String text) {
        for (String name : Calls.NAMES) {
            Checks.due("README.md tells " + name, text.contains("`" + name + "("), true);
        }
    }

    /** The examples are one run: the later ones go on with the object of the first. */
    private static void lookAtExamples(List<String> lines) {
        GroupViews x = null;
        boolean inExample = false;
        int calls = 0;
        for (String line : lines) {
            if (line.startsWith("```")) {
                inExample = line.equals("```java");
            } else if (inExample && NEW_OBJECT.matcher(line).matches()) {
                x = new GroupViews();
            } else if (inExample) {
                calls++;
                lookAtCall(x, line);
            }
        }
        Checks.due("README.md has examples", calls > 0, true);
    }

    private static void lookAtCall(GroupViews x, String line) {
        Matcher call = CALL.matcher(line);
        boolean readable = x != null && call.matches();
        Checks.due("a call with its answer: " + line, readable, true);
        if (readable) {
            int kind = Calls.kindOf(call.group(1));
            int first = Integer.parseInt(call.group(2));
            boolean two = call.group(3) != null;
            int second = two ? Integer.parseInt(call.group(3)) : 0;
            Checks.due("two arguments: " + line, two, Calls.hasTwoArguments(kind));
            Checks.due(line, Calls.ask(x, kind, first, second), Integer.parseInt(call.group(4)));
        }
    }
}
