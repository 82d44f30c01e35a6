import java.io.IOException;
import java.lang.reflect.Method;
import java.nio.file.Files;
import java.nio.file.Path;
import java.util.HashMap;
import java.util.Map;
import java.util.regex.Matcher;
import java.util.regex.Pattern;

/**
 * Holds single sentences of ../shared/DOC.md against the class: each one is quoted, with the section
 * where it stands, and has a run of calls on a new object whose answers were worked out by hand.
 * A run has a call a line, or several with ; between them:
 * <pre>
 *   weave(0, 21) = 0       a call and the answer that is due, a number or a constant's name
 *   text "17, 3"           empties the text and types this one
 *   remember, unchanged    keeps digest() and asks whether it is the same now
 *   new                    goes on with another new object
 *   // ...                 a remark
 * </pre>
 */
final class Sentences {
    private static final Path DOCUMENT = Path.of("../shared/DOC.md");
    private static final int MOST_CALLS = 512;
    private static final Map<String, Long> NAMES = Map.of("NONE", -1L, "BAD_INDEX", -2L, "BAD_VALUE", -3L,
            "BAD_STATE", -4L, "FULL", -5L, "LOWEST", (long) Integer.MIN_VALUE, "HIGHEST", (long) Integer.MAX_VALUE);
    private static final Pattern CALL = Pattern.compile("(\\w+)\\(([^)]*)\\) = (\\S+)");
    private static final Pattern HEADING = Pattern.compile("#+ (Promise \\d+|[^:]+).*|(History), errors");

    private static final Map<String, Method> METHODS = new HashMap<>();
    private static final Map<String, String> SECTIONS = new HashMap<>();
    private static int sentences = 0;
    private static int answers = 0;
    private static int wrong = 0;

    private final String told;
    private CoreRope rope = new CoreRope();
    private long remembered;
    private int calls = 0;

    private Sentences(String told) {
        this.told = told;
    }

    static void holds(String section, String sentence, String... run) {
        sentences++;
        Sentences test = new Sentences(section + ", '" + sentence + "'");
        if (!stands(section, sentence)) test.fail("does not stand in the document");
        for (String part : run) {
            for (String line : part.split("\n")) test.line(line.strip());
        }
        test.endObject();
    }

    /** The calls once for each number from the first to the last, which # stands for. */
    static String each(int first, int last, String calls) {
        StringBuilder all = new StringBuilder();
        for (int n = first; n <= last; n++) all.append(calls.replace("#", Integer.toString(n))).append('\n');
        return all.toString();
    }

    static void finish() {
        System.out.println(sentences + " sentences, " + answers + " answers looked at, " + wrong + " not as due");
        if (wrong != 0 || sentences == 0) System.exit(1);
    }

    private void endObject() {
        if (calls > MOST_CALLS) fail("has " + calls + " calls, more than an object is used for");
        rope = new CoreRope();
        calls = 0;
    }

    private void fail(String what) {
        wrong++;
        System.out.println(told + ": " + what);
    }

    private void line(String line) {
        if (line.startsWith("text \"")) {
            type(line.substring(line.indexOf('"') + 1, line.lastIndexOf('"')));
            return;
        }
        for (String part : line.replaceAll("//.*", "").split(";")) {
            if (!part.isBlank()) step(part.strip());
        }
    }

    private void step(String step) {
        Matcher call = CALL.matcher(step);
        if (step.equals("new")) {
            endObject();
        } else if (step.equals("remember")) {
            remembered = rope.digest();
            calls++;
        } else if (step.equals("unchanged")) {
            look("digest()", rope.digest(), remembered);
        } else if (call.matches()) {
            look(step.substring(0, step.indexOf(" =")), answer(call.group(1), call.group(2)), number(call.group(3)));
        } else {
            fail("is not understood: " + step);
        }
    }

    private void look(String call, long got, long due) {
        calls++;
        answers++;
        if (got != due) fail("call " + calls + ", " + call + ", answered " + got + ", due is " + due);
    }

    private void type(String text) {
        rope.clearText();
        calls++;
        for (int i = 0; i < text.length(); i++) {
            look("type(" + (int) text.charAt(i) + ")", rope.type(text.charAt(i)), i + 1);
        }
    }

    private long answer(String name, String arguments) {
        if (METHODS.isEmpty()) {
            for (Method method : CoreRope.class.getMethods()) METHODS.put(method.getName(), method);
        }
        String[] words = arguments.isEmpty() ? new String[0] : arguments.split(", ");
        Object[] values = new Object[words.length];
        for (int i = 0; i < words.length; i++) values[i] = (int) number(words[i]);
        try {
            return ((Number) METHODS.get(name).invoke(rope, values)).longValue();
        } catch (ReflectiveOperationException e) {
            throw new IllegalStateException(told + ": " + name + "(" + arguments + ")", e);
        }
    }

    private static long number(String word) {
        return NAMES.containsKey(word) ? NAMES.get(word) : Long.parseLong(word);
    }

    private static boolean stands(String section, String sentence) {
        if (SECTIONS.isEmpty()) readDocument();
        return SECTIONS.getOrDefault(section, "").contains(sentence);
    }

    private static void readDocument() {
        String section = "";
        try {
            for (String line : Files.readAllLines(DOCUMENT)) {
                Matcher heading = HEADING.matcher(line);
                if (heading.matches()) section = heading.group(1) != null ? heading.group(1) : heading.group(2);
                String words = line.replace("`", "").strip().replaceAll("\\s+", " ");
                SECTIONS.merge(section, words, (before, more) -> before + " " + more);
            }
        } catch (IOException e) {
            throw new IllegalStateException("no " + DOCUMENT, e);
        }
    }
}
