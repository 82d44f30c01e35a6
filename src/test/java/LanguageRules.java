import java.io.IOException;
import java.lang.reflect.Constructor;
import java.lang.reflect.Field;
import java.lang.reflect.Method;
import java.lang.reflect.Modifier;
import java.nio.charset.StandardCharsets;
import java.nio.file.Files;
import java.nio.file.Path;
import java.util.ArrayList;
import java.util.List;
import java.util.Set;
import java.util.TreeSet;
import java.util.regex.Matcher;
import java.util.regex.Pattern;

/**
 * Looks at src/main/java/CoreRope.java for what ../shared/LANGUAGE.md rules out, as far as words
 * and shapes tell it: a guard against slips, no proof.
 */
public final class LanguageRules {
    private static final String FACE = "begin(int,int,int):int count(int):int setCode(int,int):int code(int):int"
            + " weave(int,int):int word(int):int cross(int):int through(int,int):int cost(int):int economize():int"
            + " picked(int):int read(int):int readRaw(int):int parity(int):int wrong(int):int spoil(int,int):int"
            + " explains(int):int patch(int,int):int unpatch(int):int patchAll():int patchOf(int):int undo():int"
            + " type(int):int clearText():int textFault():int load():int digest():long";
    private static final Set<String> CONSTANTS = Set.of("NONE", "BAD_INDEX", "BAD_VALUE", "BAD_STATE", "FULL");
    private static final String FORBIDDEN_WORDS = "throw|throws|try|catch|finally|synchronized|assert|package|import"
            + "|protected|Object|Thread|Random|Scanner|volatile|native|var|equals|hashCode|toString|\\w+Exact|float|double";
    private static final int LONGEST_METHOD = 60, MOST_CLASSES = 12, MOST_FIELDS = 20, MOST_PARAMETERS = 7;

    private static int wrong = 0;

    private static void ask(boolean holds, String what) {
        if (!holds) {
            wrong++;
            System.out.println("not held: " + what);
        }
    }

    private static void lookAtWords(String code) {
        Matcher word = Pattern.compile("\\b(" + FORBIDDEN_WORDS + ")\\b").matcher(code);
        while (word.find()) {
            ask(false, "the word " + word.group() + " stands in the class");
        }
        ask(!code.contains("->"), "no lambda, no switch with arrows");
        ask(!code.contains("::"), "no method reference");
        ask(!code.contains("@"), "no annotation");
        ask(!code.contains("\""), "no text joined or kept");
        ask(!Pattern.compile("while\\s*\\(true\\)|for\\s*\\(;;\\)").matcher(code).find(), "every loop has an end");
        Matcher library = Pattern.compile("\\b(System|Integer|Long|Math|Arrays)\\.(\\w+)").matcher(code);
        while (library.find()) {
            ask(Set.of("System.arraycopy", "Integer.bitCount").contains(library.group()), library.group() + " is known");
        }
    }

    private static void lookAtMethodLengths(String source) {
        String[] lines = source.split("\n");
        int start = -1;
        String indent = "";
        for (int i = 0; i < lines.length; i++) {
            Matcher head = Pattern.compile("^(\\s+)[\\w\\[\\] ]+\\([^;]*$").matcher(lines[i]);
            if (start < 0 && head.find() && !lines[i].contains("=") && (lines[i].length() - lines[i].trim().length() <= 8)) {
                start = i;
                indent = head.group(1);
            } else if (start >= 0 && lines[i].equals(indent + "}")) {
                ask(i - start < LONGEST_METHOD, "a method of at most " + LONGEST_METHOD + " lines at line " + (start + 1));
                start = -1;
            }
        }
    }

    private static void lookAtFace() {
        Set<String> face = new TreeSet<>(List.of(FACE.split(" ")));
        Set<String> found = new TreeSet<>();
        Set<String> publicNames = new TreeSet<>();
        for (Method method : CoreRope.class.getDeclaredMethods()) {
            if (Modifier.isPrivate(method.getModifiers()) || method.isSynthetic()) continue;
            List<String> parameters = new ArrayList<>();
            for (Class<?> parameter : method.getParameterTypes()) parameters.add(parameter.getName());
            found.add(method.getName() + "(" + String.join(",", parameters) + "):" + method.getReturnType().getName());
            publicNames.add(method.getName());
            ask(Modifier.isPublic(method.getModifiers()), method.getName() + " is public or private");
        }
        ask(found.equals(face), "the methods of the document: " + found);
        for (Field field : CoreRope.class.getDeclaredFields()) {
            boolean isConstant = CONSTANTS.contains(field.getName());
            ask(isConstant ? Modifier.isPublic(field.getModifiers()) : Modifier.isPrivate(field.getModifiers()),
                    field.getName() + " is public only if it is the document's");
        }
        ask(Modifier.isFinal(CoreRope.class.getModifiers()), "CoreRope is final");
        for (Constructor<?> constructor : CoreRope.class.getDeclaredConstructors()) {
            ask(constructor.getParameterCount() == 0, "the one constructor of the document");
        }
        lookAtClasses(publicNames);
    }

    private static void lookAtClasses(Set<String> publicNames) {
        List<Class<?>> classes = new ArrayList<>(List.of(CoreRope.class.getDeclaredClasses()));
        ask(classes.size() < MOST_CLASSES, "some twelve classes");
        for (Class<?> inside : classes) {
            ask(Modifier.isStatic(inside.getModifiers()), inside.getName() + " is static");
            ask(!Modifier.isPublic(inside.getModifiers()), inside.getName() + " is not public");
        }
        classes.add(CoreRope.class);
        for (Class<?> each : classes) {
            int fields = 0;
            for (Field field : each.getDeclaredFields()) {
                if (Modifier.isStatic(field.getModifiers())) {
                    ask(Modifier.isFinal(field.getModifiers()), field.getName() + " is final, as it is static");
                } else {
                    fields++;
                }
            }
            ask(fields <= MOST_FIELDS, each.getName() + " has at most " + MOST_FIELDS + " fields");
            for (Method method : each.getDeclaredMethods()) {
                ask(method.getParameterCount() <= MOST_PARAMETERS, method.getName() + " has few parameters");
                ask(each == CoreRope.class || !publicNames.contains(method.getName()),
                        method.getName() + " inside bears no public method's name");
            }
        }
    }

    public static void main(String[] args) throws IOException {
        String source = Files.readString(Path.of("src/main/java/CoreRope.java"), StandardCharsets.ISO_8859_1);
        ask(source.chars().allMatch(sign -> sign == '\n' || sign >= ' ' && sign < 127), "plain signs alone");
        lookAtWords(source.replaceAll("(?s)/\\*.*?\\*/", "").replaceAll("//[^\n]*", ""));
        lookAtMethodLengths(source);
        lookAtFace();
        System.out.println(wrong == 0 ? "the rules are held" : wrong + " rules are not held");
        if (wrong != 0) System.exit(1);
    }
}
