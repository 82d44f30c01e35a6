import java.io.IOException;
import java.lang.reflect.Constructor;
import java.lang.reflect.Field;
import java.lang.reflect.Method;
import java.lang.reflect.Modifier;
import java.nio.charset.StandardCharsets;
import java.nio.file.Files;
import java.nio.file.Path;
import java.util.ArrayList;
import java.util.List;
import java.util.Set;
import java.util.TreeSet;

/**
 * Looks at the class that was compiled for the rules 1, 2, 5 and 11 of ../shared/LANGUAGE.md: its
 * face, and the classes inside it. What its lines must keep to is looked at by LanguageTrees.
 */
public final class LanguageRules {
    private static final String FACE = "begin(int,int,int):int count(int):int setCode(int,int):int code(int):int"
            + " weave(int,int):int word(int):int cross(int):int through(int,int):int cost(int):int economize():int"
            + " picked(int):int read(int):int readRaw(int):int parity(int):int wrong(int):int spoil(int,int):int"
            + " explains(int):int patch(int,int):int unpatch(int):int patchAll():int patchOf(int):int undo():int"
            + " type(int):int clearText():int textFault():int load():int digest():long";
    private static final Set<String> CONSTANTS = Set.of("NONE", "BAD_INDEX", "BAD_VALUE", "BAD_STATE", "FULL");
    private static final int MOST_CLASSES = 12, MOST_FIELDS = 20, MOST_PARAMETERS = 7;

    private static int wrong = 0;

    private static void ask(boolean holds, String what) {
        if (!holds) {
            wrong++;
            System.out.println("not held: " + what);
        }
    }

    private static void lookAtFace() {
        Set<String> face = new TreeSet<>(List.of(FACE.split(" ")));
        Set<String> found = new TreeSet<>();
        Set<String> publicNames = new TreeSet<>();
        for (Method method : CoreRope.class.getDeclaredMethods()) {
            if (Modifier.isPrivate(method.getModifiers()) || method.isSynthetic()) continue;
            List<String> parameters = new ArrayList<>();
            for (Class<?> parameter : method.getParameterTypes()) parameters.add(parameter.getName());
            found.add(method.getName() + "(" + String.join(",", parameters) + "):" + method.getReturnType().getName());
            publicNames.add(method.getName());
            ask(Modifier.isPublic(method.getModifiers()), method.getName() + " is public or private");
            ask(!Modifier.isStatic(method.getModifiers()), method.getName() + " is a method of objects");
        }
        ask(found.equals(face), "the methods of the document: " + found);
        for (Field field : CoreRope.class.getDeclaredFields()) {
            boolean isConstant = CONSTANTS.contains(field.getName());
            ask(isConstant ? Modifier.isPublic(field.getModifiers()) : Modifier.isPrivate(field.getModifiers()),
                    field.getName() + " is public only if it is the document's");
            ask(!isConstant || field.getType() == int.class, field.getName() + " is an int");
        }
        int modifiers = CoreRope.class.getModifiers();
        ask(Modifier.isPublic(modifiers) && Modifier.isFinal(modifiers), "CoreRope is public and final");
        ask(CoreRope.class.getSuperclass() == Object.class && CoreRope.class.getInterfaces().length == 0,
                "CoreRope is nothing else besides");
        for (Constructor<?> constructor : CoreRope.class.getDeclaredConstructors()) {
            ask(constructor.getParameterCount() == 0 && Modifier.isPublic(constructor.getModifiers()),
                    "the one constructor of the document");
        }
        lookAtClasses(publicNames);
    }

    private static void lookAtClasses(Set<String> publicNames) {
        List<Class<?>> classes = new ArrayList<>(List.of(CoreRope.class.getDeclaredClasses()));
        ask(classes.size() < MOST_CLASSES, "some twelve classes");
        for (Class<?> inside : classes) {
            ask(Modifier.isStatic(inside.getModifiers()), inside.getName() + " is static");
            ask(!Modifier.isPublic(inside.getModifiers()), inside.getName() + " is not public");
        }
        classes.add(CoreRope.class);
        for (Class<?> each : classes) {
            int fields = 0;
            for (Field field : each.getDeclaredFields()) {
                if (Modifier.isStatic(field.getModifiers())) {
                    ask(Modifier.isFinal(field.getModifiers()), field.getName() + " is final, as it is static");
                } else {
                    fields++;
                }
            }
            ask(fields <= MOST_FIELDS, each.getName() + " has at most " + MOST_FIELDS + " fields");
            for (Method method : each.getDeclaredMethods()) {
                ask(method.getParameterCount() <= MOST_PARAMETERS, method.getName() + " has few parameters");
                ask(each == CoreRope.class || !publicNames.contains(method.getName()),
                        method.getName() + " inside bears no public method's name");
            }
        }
    }

    public static void main(String[] args) throws IOException {
        String source = Files.readString(Path.of("src/main/java/CoreRope.java"), StandardCharsets.ISO_8859_1);
        ask(source.chars().allMatch(sign -> sign == '\n' || sign >= ' ' && sign < 127), "plain signs alone");
        lookAtFace();
        System.out.println(wrong == 0 ? "the rules are held" : wrong + " rules are not held");
        if (wrong != 0) System.exit(1);
    }
}
