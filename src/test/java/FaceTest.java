import java.io.IOException;
import java.lang.reflect.Constructor;
import java.lang.reflect.Field;
import java.lang.reflect.Method;
import java.lang.reflect.Modifier;
import java.nio.file.Files;
import java.nio.file.Path;
import java.util.Arrays;
import java.util.Set;
import java.util.TreeSet;
import java.util.stream.Collectors;

/** The public face, and those rules of LANGUAGE.md that can be seen in the class or in its text. */
public final class FaceTest {
    private static final String STATE = "IllegalStateException";
    private static final String INDEX = "IndexOutOfBoundsException";
    private static final String ARGUMENT = "IllegalArgumentException";
    private static final String[] FACE = {
        "boolean heights(long) throws " + ARGUMENT,
        "boolean unit(int)",
        "int rules()",
        "int run(int, long, long) throws " + STATE + ", " + ARGUMENT,
        "long rise(int) throws " + STATE + ", " + INDEX,
        "long step(int, int) throws " + STATE + ", " + INDEX + ", " + ARGUMENT,
        "long winder(int, int) throws " + STATE + ", " + INDEX,
        "long area(int) throws " + STATE + ", " + INDEX,
        "boolean meets(int) throws " + STATE + ", " + INDEX,
        "boolean floor(long, long, long, long, long) throws " + ARGUMENT,
        "long headRoom() throws " + STATE,
        "long string(int) throws " + STATE + ", " + INDEX,
        "int balusters(long, long) throws " + STATE + ", " + ARGUMENT,
        "long gap(int) throws " + STATE + ", " + INDEX,
        "int list(int) throws " + STATE + ", " + INDEX,
    };

    public static void main(String[] args) throws IOException {
        Check.sentence("The public face");
        Class<StairPlans> face = StairPlans.class;
        Check.due(true, "StairPlans is public and final",
                () -> Modifier.isPublic(face.getModifiers()) && Modifier.isFinal(face.getModifiers()));
        Check.due("[StairPlans()]", "what is seen of the constructors", () -> seenConstructors(face));
        Check.due(new TreeSet<>(Arrays.asList(FACE)), "what is seen of the methods", () -> seenMethods(face));
        Check.due("[public static final int NONE]", "what is seen of the fields", () -> seenFields(face));
        Check.due(true, "the classes inside are static, and none is public or protected",
                () -> Arrays.stream(face.getDeclaredClasses()).allMatch(FaceTest::mayStandInside));
        for (Class<?> inside : face.getDeclaredClasses()) {
            Check.due(true, "no method of " + inside.getName() + " bears a name of the face", () -> namesApart(inside));
        }
        source(Files.readString(Path.of("src/main/java/StairPlans.java")));
        Check.end("FaceTest");
    }

    private static Set<String> seenConstructors(Class<?> face) {
        Set<String> seen = new TreeSet<>();
        for (Constructor<?> constructor : face.getDeclaredConstructors()) {
            if (!Modifier.isPrivate(constructor.getModifiers())) {
                seen.add(constructor.getName() + parameters(constructor.getParameterTypes()));
            }
        }
        return seen;
    }

    private static Set<String> seenMethods(Class<?> face) {
        Set<String> seen = new TreeSet<>();
        for (Method method : face.getDeclaredMethods()) {
            if (!Modifier.isPrivate(method.getModifiers())) {
                String kept = method.getReturnType() + " " + method.getName() + parameters(method.getParameterTypes())
                        + exceptions(method.getExceptionTypes());
                boolean plain = method.getModifiers() == Modifier.PUBLIC;
                seen.add(plain ? kept : Modifier.toString(method.getModifiers()) + " " + kept);
            }
        }
        return seen;
    }

    private static Set<String> seenFields(Class<?> face) {
        Set<String> seen = new TreeSet<>();
        for (Field field : face.getDeclaredFields()) {
            if (!Modifier.isPrivate(field.getModifiers())) {
                seen.add(Modifier.toString(field.getModifiers()) + " " + field.getType() + " " + field.getName());
            }
        }
        return seen;
    }

    private static String parameters(Class<?>[] types) {
        return Arrays.stream(types).map(Class::getName).collect(Collectors.joining(", ", "(", ")"));
    }

    private static String exceptions(Class<?>[] types) {
        return types.length == 0 ? "" : Arrays.stream(types).map(Class::getSimpleName)
                .collect(Collectors.joining(", ", " throws ", ""));
    }

    private static boolean mayStandInside(Class<?> inside) {
        int modifiers = inside.getModifiers();
        return Modifier.isStatic(modifiers) && !Modifier.isPublic(modifiers) && !Modifier.isProtected(modifiers);
    }

    private static boolean namesApart(Class<?> inside) {
        Set<String> taken = Arrays.stream(StairPlans.class.getDeclaredMethods())
                .filter(method -> Modifier.isPublic(method.getModifiers()))
                .map(Method::getName).collect(Collectors.toSet());
        return Arrays.stream(inside.getDeclaredMethods()).map(Method::getName).noneMatch(taken::contains);
    }

    private static void source(String source) {
        String code = source.replaceAll("(?s)/\\*.*?\\*/", "").replaceAll("//[^\n]*", "")
                .replaceAll("\"[^\"\n]*\"", "\"\"");
        for (String word : new String[] {"package", "import", "try", "catch", "finally", "synchronized", "assert",
            "instanceof", "static\\s*\\{", "\\w+Exact", "System", "double", "float", "->", "::"}) {
            boolean there = java.util.regex.Pattern.compile(word.matches("[a-zA-Z]+") ? "\\b" + word + "\\b" : word)
                    .matcher(code).find();
            Check.due(false, "the program has " + word, () -> there);
        }
    }
}
