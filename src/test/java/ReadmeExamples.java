import java.io.IOException;
import java.lang.reflect.Method;
import java.nio.file.Files;
import java.nio.file.Path;
import java.util.HashMap;
import java.util.Map;
import java.util.regex.Matcher;
import java.util.regex.Pattern;
import java.util.stream.Stream;

/** README.md: its examples answer what they say, and it names each call and each file of the tests. */
public final class ReadmeExamples {
    private static final Pattern CALL = Pattern.compile("rope\\.(\\w+)\\((.*)\\); +// (-?\\d+)\\b.*");
    private static final int FEWEST_CALLS = 20;

    private static int wrong = 0;

    private static void ask(boolean holds, String what) {
        if (!holds) {
            wrong++;
            System.out.println("README.md: " + what);
        }
    }

    private static int argument(String word) {
        return word.startsWith("'") ? word.charAt(1) : Integer.parseInt(word);
    }

    private static long answer(CoreRope rope, Method method, String arguments) throws ReflectiveOperationException {
        // A comma within quotes is an argument, one with a blank behind it stands between two.
        String[] words = arguments.isEmpty() ? new String[0] : arguments.split(", ");
        Object[] values = new Object[words.length];
        for (int i = 0; i < words.length; i++) values[i] = argument(words[i]);
        return ((Number) method.invoke(rope, values)).longValue();
    }

    public static void main(String[] args) throws IOException, ReflectiveOperationException {
        Map<String, Method> methods = new HashMap<>();
        for (Method method : CoreRope.class.getDeclaredMethods()) methods.put(method.getName(), method);
        String readme = Files.readString(Path.of("README.md"));
        CoreRope rope = new CoreRope();
        int calls = 0;
        for (String line : readme.split("\n")) {
            Matcher call = CALL.matcher(line);
            if (line.startsWith("CoreRope rope = new CoreRope();")) {
                rope = new CoreRope();
            } else if (call.matches()) {
                calls++;
                long got = answer(rope, methods.get(call.group(1)), call.group(2));
                ask(got == Long.parseLong(call.group(3)), line + " answered " + got);
            } else {
                ask(!line.startsWith("rope."), line + " has no answer");
            }
        }
        for (String name : methods.keySet()) ask(readme.contains("`" + name + "`"), "does not name " + name);
        try (Stream<Path> files = Files.list(Path.of("src/test/java"))) {
            files.map(file -> file.getFileName().toString().replace(".java", ""))
                .forEach(name -> ask(readme.contains("`" + name + "`"), "does not name " + name));
        }
        System.out.println(calls + " calls of README.md, " + wrong + " things not as due");
        if (wrong != 0 || calls < FEWEST_CALLS) System.exit(1);
    }
}
