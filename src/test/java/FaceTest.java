import java.lang.reflect.Constructor;
import java.lang.reflect.Field;
import java.lang.reflect.Method;
import java.lang.reflect.Modifier;
import java.util.Arrays;
import java.util.List;
import java.util.Set;
import java.util.TreeSet;
import java.util.stream.Collectors;

/** The public face is the document's, and there is no other member that can be seen. */
public final class FaceTest {
    private static final Set<String> METHODS = new TreeSet<>(List.of(
            "void fit(int, int, int, float) NoSuchElementException IllegalArgumentException IllegalStateException",
            "void need(int, int) NoSuchElementException IllegalArgumentException IllegalStateException",
            "void wire(int, int) NoSuchElementException IllegalArgumentException",
            "void reading(int, float) NoSuchElementException IllegalArgumentException",
            "boolean type(char)",
            "int rule() IllegalStateException",
            "int forget() IllegalStateException",
            "int poll()",
            "int key(int)",
            "boolean silence() IllegalStateException",
            "int reset() IllegalStateException",
            "boolean off(boolean, int, boolean) NoSuchElementException IllegalStateException",
            "float level(int) NoSuchElementException",
            "float base(int) NoSuchElementException",
            "int place(int) NoSuchElementException",
            "int zone(int) NoSuchElementException",
            "int output(int) NoSuchElementException",
            "int held(int) NoSuchElementException",
            "int log(int, int) IllegalArgumentException",
            "int count(int) IllegalArgumentException"));

    public static void main(String[] args) {
        Due due = new Due();
        due.is("the class", Modifier.toString(FirePanel.class.getModifiers()), "public final");
        due.is("NONE", FirePanel.NONE, -1);
        due.is("the methods", visibleMethods(), METHODS);
        due.is("the constructors", Arrays.stream(FirePanel.class.getDeclaredConstructors())
                .map(Constructor::toString).collect(Collectors.toList()), List.of("public FirePanel()"));
        due.is("the fields", Arrays.stream(FirePanel.class.getDeclaredFields())
                .filter(f -> !Modifier.isPrivate(f.getModifiers())).map(Field::toString)
                .collect(Collectors.toList()), List.of("public static final int FirePanel.NONE"));
        due.is("private methods with a public name", doubledNames(), new TreeSet<String>());
        due.end();
    }

    private static Set<String> visibleMethods() {
        Set<String> found = new TreeSet<>();
        for (Method m : FirePanel.class.getDeclaredMethods()) {
            if (!Modifier.isPrivate(m.getModifiers())) {
                found.add(face(m));
            }
        }
        return found;
    }

    private static String face(Method m) {
        String types = Arrays.stream(m.getParameterTypes()).map(Class::getName).collect(Collectors.joining(", "));
        StringBuilder text = new StringBuilder(m.getReturnType() + " " + m.getName() + "(" + types + ")");
        for (Class<?> thrown : m.getExceptionTypes()) {
            text.append(' ').append(thrown.getSimpleName());
        }
        return text.toString();
    }

    private static Set<String> doubledNames() {
        Set<String> seen = new TreeSet<>();
        Set<String> hidden = new TreeSet<>();
        for (Method m : FirePanel.class.getDeclaredMethods()) {
            (Modifier.isPrivate(m.getModifiers()) ? hidden : seen).add(m.getName());
        }
        hidden.retainAll(seen);
        return hidden;
    }
}
