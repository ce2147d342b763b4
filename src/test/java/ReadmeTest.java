import java.io.IOException;
import java.lang.reflect.Method;
import java.lang.reflect.Modifier;
import java.nio.file.Files;
import java.nio.file.Path;
import java.util.List;
import java.util.regex.Matcher;
import java.util.regex.Pattern;

/** README.md says how to use the class: its examples are run, so that they cannot grow old. */
public final class ReadmeTest {
    private static final Pattern CALL = Pattern.compile("body\\.(\\w+)\\((.*?)\\); +// (-?\\d+)(:.*)?");
    private static final int LEAST_CALLS = 20;

    public static void main(String[] args) throws IOException, ReflectiveOperationException {
        // .ci/run starts every test in the project's own folder.
        List<String> lines = Files.readAllLines(Path.of("README.md"));
        examplesAnswerWhatTheySay(lines);
        everyCallIsTold(lines);
        Check.end();
    }

    private static void examplesAnswerWhatTheySay(List<String> lines) throws ReflectiveOperationException {
        Check.sentence("README.md, the examples");
        BodyRows2 body = new BodyRows2();
        boolean inExample = false;
        int calls = 0;
        for (String line : lines) {
            if (line.startsWith("```")) {
                inExample = line.equals("```java");
            } else if (inExample && line.equals("BodyRows2 body = new BodyRows2();")) {
                body = new BodyRows2();
            } else if (inExample) {
                runLine(body, line);
                calls++;
            }
        }
        Check.holds("there are examples", calls >= LEAST_CALLS);
    }

    private static void runLine(BodyRows2 body, String line) throws ReflectiveOperationException {
        Matcher call = CALL.matcher(line);
        boolean isCall = call.matches();
        Check.holds("a call with its answer: " + line, isCall);
        if (isCall) {
            Check.due(line, answer(body, call.group(1), call.group(2)), Long.parseLong(call.group(3)));
        }
    }

    private static int answer(BodyRows2 body, String name, String text) throws ReflectiveOperationException {
        String[] words = text.isEmpty() ? new String[0] : text.split(", ");
        Class<?>[] types = new Class<?>[words.length];
        Object[] values = new Object[words.length];
        for (int i = 0; i < words.length; i++) {
            boolean isTruth = words[i].equals("true") || words[i].equals("false");
            types[i] = isTruth ? boolean.class : int.class;
            values[i] = isTruth ? (Object) Boolean.valueOf(words[i]) : (Object) Integer.valueOf(words[i]);
        }
        return (Integer) BodyRows2.class.getMethod(name, types).invoke(body, values);
    }

    private static void everyCallIsTold(List<String> lines) {
        Check.sentence("README.md, the table of calls");
        for (Method method : BodyRows2.class.getDeclaredMethods()) {
            if (Modifier.isPublic(method.getModifiers())) {
                String start = "| `" + method.getName() + "(";
                Check.holds(method.getName(), lines.stream().anyMatch(line -> line.startsWith(start)));
            }
        }
    }
}
