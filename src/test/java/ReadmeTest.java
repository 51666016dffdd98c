import java.io.IOException;
import java.lang.reflect.Method;
import java.lang.reflect.Modifier;
import java.nio.file.Files;
import java.nio.file.Path;
import java.util.HashMap;
import java.util.Map;
import java.util.regex.Matcher;
import java.util.regex.Pattern;

/** The README's example answers what its comments say, and the README tells every call. */
public final class ReadmeTest {
    /** A line of the example: a name for the answer or none, the call, and the answer that is due. */
    private static final Pattern LINE = Pattern.compile(
            "(?:int (\\w+) = )?court\\.(\\w+)\\((.*)\\); +// (-?\\d+|true|false|NONE)\\b.*");
    private static final String FIRST_LINE = "CrescentCourt court = new CrescentCourt();";
    private static final int CALLS_DUE = 20;
    private static final Checks checks = new Checks();

    public static void main(String[] args) throws IOException, ReflectiveOperationException {
        String readme = Files.readString(Path.of("README.md"));
        checkExample(exampleOf(readme));
        checkEveryCallIsTold(readme);
        checks.due("how to run the tests", readme.contains("\nbash .ci/run\n"), true);
        checks.end();
    }

    private static String exampleOf(String readme) {
        Matcher block = Pattern.compile("(?s)```java\n(.*?)```").matcher(readme);
        return block.find() ? block.group(1) : "";
    }

    private static void checkExample(String example) throws ReflectiveOperationException {
        CrescentCourt court = new CrescentCourt();
        Map<String, Integer> names = new HashMap<>();
        names.put("NONE", CrescentCourt.NONE);
        int calls = 0;
        for (String line : example.split("\n")) {
            if (line.isBlank() || line.startsWith("//") || line.equals(FIRST_LINE)) {
                continue;
            }
            Matcher call = LINE.matcher(line);
            checks.due("a call and its answer: " + line, call.matches(), true);
            if (call.matches()) {
                int answer = answerOf(court, call.group(2), call.group(3), names);
                checks.due(line, answer, numberOf(call.group(4), names));
                names.put(String.valueOf(call.group(1)), answer);
                calls++;
            }
        }
        checks.due("the example has so many calls", calls >= CALLS_DUE, true);
    }

    private static int answerOf(CrescentCourt court, String name, String told,
            Map<String, Integer> names) throws ReflectiveOperationException {
        String[] parts = told.split(", ");
        Object[] arguments = new Object[parts.length];
        Class<?>[] types = new Class<?>[parts.length];
        for (int i = 0; i < parts.length; i++) {
            arguments[i] = numberOf(parts[i], names);
            types[i] = int.class;
        }
        Object answer = CrescentCourt.class.getMethod(name, types).invoke(court, arguments);
        return numberOf(answer.toString(), names);
    }

    private static int numberOf(String told, Map<String, Integer> names) {
        if (told.equals("true") || told.equals("false")) {
            return told.equals("true") ? 1 : 0;
        }
        Integer named = names.get(told);
        return named != null ? named : Integer.decode(told);
    }

    private static void checkEveryCallIsTold(String readme) {
        for (Method method : CrescentCourt.class.getDeclaredMethods()) {
            if (Modifier.isPublic(method.getModifiers())) {
                boolean told = readme.matches("(?s).*`" + method.getName() + "\\([^)]*\\)`.*");
                checks.due("told: " + method.getName(), told, true);
            }
        }
    }
}
