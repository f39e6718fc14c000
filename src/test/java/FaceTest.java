import java.io.IOException;
import java.lang.reflect.Constructor;
import java.lang.reflect.Field;
import java.lang.reflect.Method;
import java.lang.reflect.Modifier;
import java.nio.file.Files;
import java.nio.file.Path;
import java.util.Arrays;
import java.util.Set;
import java.util.TreeSet;
import java.util.stream.Collectors;

/** The public face, and those rules of LANGUAGE.md that can be seen in the class or in its text. */
public final class FaceTest {
    private static final String[] FACE = {
        "boolean floor(long, long, long, long, long)", "boolean heights(long)", "boolean meets(int)",
        "boolean unit(int)", "int balusters(long, long)", "int list(int)", "int rules()", "int run(int, long, long)",
        "long area(int)", "long gap(int)", "long headRoom()", "long rise(int)", "long step(int, int)",
        "long string(int)", "long winder(int, int)",
    };

    public static void main(String[] args) throws IOException {
        Class<StairPlans> face = StairPlans.class;
        Check.due(true, "StairPlans is public and final",
                () -> Modifier.isPublic(face.getModifiers()) && Modifier.isFinal(face.getModifiers()));
        Check.due("[StairPlans()]", "what is seen of the constructors", () -> seenConstructors(face));
        Check.due(new TreeSet<>(Arrays.asList(FACE)), "what is seen of the methods", () -> seenMethods(face));
        Check.due("[NONE]", "what is seen of the fields", () -> seenFields(face));
        Check.due(true, "the classes inside are static, and none is public or protected",
                () -> Arrays.stream(face.getDeclaredClasses()).allMatch(FaceTest::mayStandInside));
        for (Class<?> inside : face.getDeclaredClasses()) {
            Check.due(true, "no method of " + inside.getName() + " bears a name of the face", () -> namesApart(inside));
        }
        source(Files.readString(Path.of("src/main/java/StairPlans.java")));
        Check.end("FaceTest");
    }

    private static Set<String> seenConstructors(Class<?> face) {
        Set<String> seen = new TreeSet<>();
        for (Constructor<?> constructor : face.getDeclaredConstructors()) {
            if (!Modifier.isPrivate(constructor.getModifiers())) {
                seen.add(constructor.getName() + parameters(constructor.getParameterTypes()));
            }
        }
        return seen;
    }

    private static Set<String> seenMethods(Class<?> face) {
        Set<String> seen = new TreeSet<>();
        for (Method method : face.getDeclaredMethods()) {
            if (!Modifier.isPrivate(method.getModifiers())) {
                seen.add(method.getReturnType() + " " + method.getName() + parameters(method.getParameterTypes()));
            }
        }
        return seen;
    }

    private static Set<String> seenFields(Class<?> face) {
        Set<String> seen = new TreeSet<>();
        for (Field field : face.getDeclaredFields()) {
            if (!Modifier.isPrivate(field.getModifiers())) {
                seen.add(field.getName());
            }
        }
        return seen;
    }

    private static String parameters(Class<?>[] types) {
        return Arrays.stream(types).map(Class::getName).collect(Collectors.joining(", ", "(", ")"));
    }

    private static boolean mayStandInside(Class<?> inside) {
        int modifiers = inside.getModifiers();
        return Modifier.isStatic(modifiers) && !Modifier.isPublic(modifiers) && !Modifier.isProtected(modifiers);
    }

    private static boolean namesApart(Class<?> inside) {
        Set<String> taken = Arrays.stream(StairPlans.class.getDeclaredMethods())
                .filter(method -> Modifier.isPublic(method.getModifiers()))
                .map(Method::getName).collect(Collectors.toSet());
        return Arrays.stream(inside.getDeclaredMethods()).map(Method::getName).noneMatch(taken::contains);
    }

    private static void source(String source) {
        String code = source.replaceAll("(?s)/\\*.*?\\*/", "").replaceAll("//[^\n]*", "")
                .replaceAll("\"[^\"\n]*\"", "\"\"");
        for (String word : new String[] {"package", "import", "try", "catch", "finally", "synchronized", "assert",
            "instanceof", "static\\s*\\{", "\\w+Exact", "System", "double", "float", "->", "::"}) {
            boolean there = java.util.regex.Pattern.compile(word.matches("[a-zA-Z]+") ? "\\b" + word + "\\b" : word)
                    .matcher(code).find();
            Check.due(false, "the program has " + word, () -> there);
        }
    }
}
