import java.io.IOException;
import java.lang.reflect.Method;
import java.lang.reflect.Modifier;
import java.nio.file.Files;
import java.nio.file.Path;
import java.util.HashMap;
import java.util.HashSet;
import java.util.Map;
import java.util.Set;
import java.util.regex.Matcher;
import java.util.regex.Pattern;

/** What README.md tells of the use of the class: its calls answer what stands behind them, and none is left out. */
public final class ReadmeTest {
    private static final Path README = Path.of("README.md");
    // "int train = track.enter(25, 10);  // 0: a train", the name, the call and the answer.
    private static final Pattern LINE =
        Pattern.compile("(?:int (\\w+) = )?track\\.(\\w+\\(.*\\));\\s*// (-?\\d+|throws\\.\\w+)(?::.*)?");

    private ReadmeTest() {
    }

    public static void main(String[] args) throws IOException {
        String readme = Files.readString(README);
        Set<String> shown = runExample(part(readme, "```java\n", "```"));
        for (Method method : HybridTrack.class.getDeclaredMethods()) {
            if (Modifier.isPublic(method.getModifiers())) {
                dueTold(readme, shown, method.getName());
            }
        }
        if (!part(readme, "## Tests", "needs a JDK").contains("\n.ci/run\n")) {
            Due.tell("README.md does not say how to run the tests");
        }
        Due.end();
    }

    private static String part(String text, String from, String to) {
        int start = text.indexOf(from);
        int end = start < 0 ? -1 : text.indexOf(to, start + from.length());
        return end < 0 ? "" : text.substring(start + from.length(), end);
    }

    /** The names of the calls that the example makes. */
    private static Set<String> runExample(String example) {
        Set<String> shown = new HashSet<>();
        Map<String, String> values = new HashMap<>();
        Run run = new Run();
        for (String line : example.split("\n")) {
            Matcher told = LINE.matcher(line);
            if (told.matches()) {
                String call = withValues(told.group(2), values);
                String got = run.make(call).get(0);
                if (!got.equals(told.group(3))) {
                    Due.tell("README.md: " + line + " answered " + got);
                }
                if (told.group(1) != null) {
                    values.put(told.group(1), got);
                }
                shown.add(call.substring(0, call.indexOf('(')));
            } else if (!line.equals("HybridTrack track = new HybridTrack();")) {
                Due.tell("README.md: a line that tells no answer: " + line);
            }
        }
        return shown;
    }

    private static String withValues(String call, Map<String, String> values) {
        String written = call;
        for (Map.Entry<String, String> value : values.entrySet()) {
            written = written.replaceAll("\\b" + value.getKey() + "\\b", value.getValue());
        }
        return written;
    }

    private static void dueTold(String readme, Set<String> shown, String name) {
        if (!shown.contains(name)) {
            Due.tell("the example of README.md does not show " + name);
        }
        if (!readme.contains("\n| `" + name + "(")) {
            Due.tell("the table of README.md does not tell of " + name);
        }
    }
}
