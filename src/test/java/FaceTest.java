import java.io.IOException;
import java.lang.reflect.Constructor;
import java.lang.reflect.Field;
import java.lang.reflect.Method;
import java.lang.reflect.Modifier;
import java.nio.file.Files;
import java.nio.file.Path;
import java.util.Arrays;
import java.util.Set;
import java.util.TreeSet;

/** The public face, and the rules of LANGUAGE.md that can be seen from outside or in the source's words. */
final class FaceTest {
    private static final String[] FACE = {
        "boolean type(long)", "void wipe()",
        "int register() throws IllegalStateException, IllegalArgumentException, UnsupportedOperationException, "
            + "ArithmeticException, IndexOutOfBoundsException",
        "int lookup() throws IllegalStateException, IllegalArgumentException, UnsupportedOperationException, ArithmeticException",
        "int search() throws IllegalStateException, IllegalArgumentException, UnsupportedOperationException",
        "int found(int)", "int remove(int) throws IllegalStateException", "boolean fail(int)", "int recover()", "int count()",
        "int atoms(int)", "int atom(int, int)", "int bond(int, int, int)",
    };

    private static final String LIBRARY = "Arrays|ArrayList|List|Iterator|NoSuchElementException";

    public static void main(String[] args) throws IOException {
        Class<?> face = MoleculeRegistry.class;
        Checks.due("the class", Modifier.toString(face.getModifiers()), "public final");
        Set<String> names = methods(face);
        constructorsAndFields(face);
        for (Class<?> inside : face.getDeclaredClasses()) {
            int modifiers = inside.getModifiers();
            Checks.due(inside + " is static", Modifier.isStatic(modifiers), true);
            Checks.due(inside + " is seen outside", Modifier.isPublic(modifiers) || Modifier.isProtected(modifiers), false);
            for (Method method : inside.getDeclaredMethods()) {
                boolean hidden = Modifier.isPrivate(method.getModifiers()) && names.contains(method.getName());
                Checks.due("a private method with a name of the face, " + method, hidden, false);
                Checks.due("a lambda, " + method, method.getName().startsWith("lambda$"), false);
                Checks.due("parameters of " + method, method.getParameterCount() <= 7, true);
            }
            fields(inside);
        }
        Checks.due("some twelve classes", face.getDeclaredClasses().length <= 12, true);
        words(Files.readString(Path.of("src/main/java/MoleculeRegistry.java")));
        Checks.end();
    }

    private static Set<String> methods(Class<?> face) {
        Set<String> shown = new TreeSet<>();
        Set<String> names = new TreeSet<>();
        for (Method method : face.getDeclaredMethods()) {
            if (Modifier.isPublic(method.getModifiers())) {
                shown.add(written(method));
                names.add(method.getName());
            }
        }
        Checks.due("the public methods", shown, new TreeSet<>(Arrays.asList(FACE)));
        for (Method method : face.getDeclaredMethods()) {
            boolean isPublic = Modifier.isPublic(method.getModifiers());
            Checks.due(method + " is public or private", isPublic || Modifier.isPrivate(method.getModifiers()), true);
            Checks.due(method + " bears a public name", !isPublic && names.contains(method.getName()), false);
            Checks.due("a lambda, " + method, method.getName().startsWith("lambda$"), false);
        }
        return names;
    }

    private static String written(Method method) {
        StringBuilder text = new StringBuilder(method.getReturnType() + " " + method.getName() + "(");
        for (int i = 0; i < method.getParameterCount(); i++) {
            text.append(i == 0 ? "" : ", ").append(method.getParameterTypes()[i]);
        }
        text.append(")");
        for (int i = 0; i < method.getExceptionTypes().length; i++) {
            text.append(i == 0 ? " throws " : ", ").append(method.getExceptionTypes()[i].getSimpleName());
        }
        return text.toString();
    }

    private static void constructorsAndFields(Class<?> face) {
        Constructor<?>[] constructors = face.getDeclaredConstructors();
        Checks.due("constructors", constructors.length, 1);
        Checks.due("constructor", constructors[0], "public MoleculeRegistry()");
        for (Field field : face.getDeclaredFields()) {
            Checks.due(field + " is private", Modifier.isPrivate(field.getModifiers()), true);
        }
        fields(face);
    }

    private static void fields(Class<?> some) {
        int own = 0;
        for (Field field : some.getDeclaredFields()) {
            boolean isStatic = Modifier.isStatic(field.getModifiers());
            own += isStatic ? 0 : 1;
            Checks.due(field + " is final where it is static", !isStatic || Modifier.isFinal(field.getModifiers()), true);
        }
        Checks.due("some twenty fields in " + some, own <= 20, true);
    }

    private static void words(String source) {
        String[] barred = {"::", "synchronized", "assert ", "finally", "while (true)", "System.out", "package ", "static {",
            "HashMap", "Random", "Thread", "getMessage", "Exact("};
        for (String word : barred) {
            Checks.due("'" + word + "' stands in the source", source.contains(word), false);
        }
        for (String line : source.split("\n")) {
            boolean other = line.startsWith("import ") && !line.matches("import java[.]util[.](" + LIBRARY + ");");
            Checks.due("other import: " + line, other, false);
        }
    }
}
