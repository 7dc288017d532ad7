import java.io.IOException;
import java.lang.reflect.InvocationTargetException;
import java.lang.reflect.Method;
import java.nio.file.DirectoryStream;
import java.nio.file.Files;
import java.nio.file.Path;
import java.util.HashMap;
import java.util.Map;
import java.util.Set;
import java.util.TreeSet;
import java.util.regex.Matcher;
import java.util.regex.Pattern;

/** The example of README.md answers as it tells, and README.md names every test. */
public final class ReadmeTest {
    private static final Check CHECK = new Check();
    private static final Path TESTS = Path.of("src/test/java");
    private static final String FIRST = "SamplingDesk desk = new SamplingDesk();";
    // A name for the answer, if it is kept; the method; its arguments; the answer.
    private static final Pattern CALL = Pattern.compile(
            "(?:int (\\w+) = )?desk\\.(\\w+)\\(([\\w, -]*)\\); +// (-?\\d+)(?:: .*)?");

    private final SamplingDesk desk = new SamplingDesk();
    private final Map<String, Integer> kept = new HashMap<>();
    private final Set<String> used = new TreeSet<>();

    public static void main(String[] args) throws IOException, ReflectiveOperationException {
        String text = Files.readString(Path.of("README.md"));
        Matcher block = Pattern.compile("(?s)```java\n(.*?)```").matcher(text);
        CHECK.due("there is an example", block.find() ? 1 : 0, 1);
        new ReadmeTest().ask(block.group(1).split("\n"));
        CHECK.due("there is one example", block.find() ? 1 : 0, 0);
        everyTestIsNamed(text);
        CHECK.due("how all tests are run", text.contains("```sh\n.ci/run\n```") ? 1 : 0, 1);
        CHECK.due("how one is run", text.contains("\njava -cp /tmp/desk PartTest\n") ? 1 : 0, 1);
        CHECK.finish("ReadmeTest");
    }

    private void ask(String[] lines) throws ReflectiveOperationException {
        CHECK.due("its first line", lines[0], FIRST);
        for (int i = 1; i < lines.length; i++) {
            Matcher call = CALL.matcher(lines[i]);
            if (call.matches()) {
                askCall(lines[i], call);
            } else {
                boolean words = lines[i].isEmpty() || lines[i].startsWith("// ");
                CHECK.due("a call with its answer: " + lines[i], words ? 1 : 0, 1);
            }
        }
        CHECK.due("methods that it uses", used.toString(), FaceTest.names().toString());
    }

    private void askCall(String line, Matcher call) throws ReflectiveOperationException {
        String[] told = call.group(3).isEmpty() ? new String[0] : call.group(3).split(", ");
        Object[] arguments = new Object[told.length];
        Class<?>[] types = new Class<?>[told.length];
        for (int i = 0; i < told.length; i++) {
            arguments[i] = kept.containsKey(told[i]) ? kept.get(told[i]) : Integer.valueOf(told[i]);
            types[i] = int.class;
        }
        long answer = answerOf(SamplingDesk.class.getMethod(call.group(2), types), arguments);
        CHECK.due(line, answer, Long.parseLong(call.group(4)));
        used.add(call.group(2));
        if (call.group(1) != null) {
            CHECK.due("a new name: " + line, kept.containsKey(call.group(1)) ? 1 : 0, 0);
            kept.put(call.group(1), (int) answer);
        }
    }

    private long answerOf(Method method, Object[] arguments)
            throws IllegalAccessException, InvocationTargetException {
        return ((Number) method.invoke(desk, arguments)).longValue();
    }

    private static void everyTestIsNamed(String text) throws IOException {
        try (DirectoryStream<Path> files = Files.newDirectoryStream(TESTS, "*.java")) {
            for (Path file : files) {
                String name = file.getFileName().toString().replace(".java", "");
                CHECK.due(name + " is named", text.contains("`" + name + "`") ? 1 : 0, 1);
            }
        }
    }
}
