import java.io.IOException;
import java.lang.reflect.Method;
import java.lang.reflect.Modifier;
import java.nio.file.Files;
import java.nio.file.Path;
import java.util.List;
import java.util.regex.Matcher;
import java.util.regex.Pattern;

/** What README.md says holds: the answers of its examples, all methods and all tests are named. */
public final class ReadmeTest {
    private static final Pattern MAKING = Pattern.compile("CouncilSequence x = new CouncilSequence\\((-?\\d+)\\);.*");
    private static final Pattern CALL = Pattern.compile("x\\.(\\w+)\\(([^)]*)\\);\\s*// (-?\\d+|true|false)\\b.*");
    private static final int LEAST_CALLS = 20;
    private static final Check CHECK = new Check("ReadmeTest");

    public static void main(String[] args) throws IOException, ReflectiveOperationException {
        String readme = Files.readString(Path.of("README.md"));
        examples(readme.lines().toList());
        methods(readme);
        tests(readme);
        CHECK.end();
    }

    private static void examples(List<String> lines) throws ReflectiveOperationException {
        CouncilSequence x = new CouncilSequence(3);
        int calls = 0;
        for (int i = 0; i < lines.size(); i++) {
            CHECK.begin("line " + (i + 1));
            Matcher making = MAKING.matcher(lines.get(i));
            Matcher call = CALL.matcher(lines.get(i));
            if (making.matches()) {
                x = new CouncilSequence(Integer.parseInt(making.group(1)));
            } else if (call.matches()) {
                calls++;
                CHECK.due(call.group(1) + "(" + call.group(2) + ")", answer(x, call.group(1), call.group(2)), call.group(3));
            } else {
                CHECK.due("a call without its answer", lines.get(i).startsWith("x."), false);
            }
        }
        CHECK.begin("the examples");
        CHECK.due("at least " + LEAST_CALLS + " calls", calls >= LEAST_CALLS, true);
    }

    private static String answer(CouncilSequence x, String name, String arguments) throws ReflectiveOperationException {
        String[] words = arguments.isBlank() ? new String[0] : arguments.split(",\\s*");
        for (Method method : CouncilSequence.class.getMethods()) {
            if (method.getName().equals(name) && method.getParameterCount() == words.length) {
                return String.valueOf(method.invoke(x, values(method.getParameterTypes(), words)));
            }
        }
        return "no such method";
    }

    private static Object[] values(Class<?>[] types, String[] words) {
        Object[] values = new Object[words.length];
        for (int i = 0; i < words.length; i++) {
            if (types[i] == boolean.class) {
                values[i] = Boolean.valueOf(words[i]);
            } else {
                values[i] = Integer.valueOf(words[i]);
            }
        }
        return values;
    }

    private static void methods(String readme) {
        CHECK.begin("the methods");
        for (Method method : CouncilSequence.class.getDeclaredMethods()) {
            if (Modifier.isPublic(method.getModifiers())) {
                CHECK.due(method.getName() + " has a row", readme.contains("\n| `" + method.getName() + "("), true);
            }
        }
    }

    private static void tests(String readme) throws IOException {
        CHECK.begin("the tests");
        CHECK.due(".ci/run is named", readme.contains("\n    .ci/run\n"), true);
        try (var files = Files.list(Path.of("src/test/java"))) {
            for (Path file : files.toList()) {
                String name = file.getFileName().toString().replace(".java", "");
                CHECK.due(name + " is named", readme.contains("`" + name + "`"), true);
            }
        }
    }
}
