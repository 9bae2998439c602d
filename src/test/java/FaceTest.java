import java.lang.reflect.Method;
import java.lang.reflect.Modifier;
import java.util.Arrays;
import java.util.TreeSet;

/** The public face is the document's, and there is no more of it. */
final class FaceTest {
    public static void main(String[] args) {
        Kit kit = new Kit("FaceTest");
        TreeSet<String> due = new TreeSet<>(Arrays.asList(
            "int feed(int, int, int, int, int) IllegalStateException", "void end(int) IllegalArgumentException",
            "int schema()", "int place()", "int size()", "int letter(int) IndexOutOfBoundsException", "long print()",
            "int keep(int) IndexOutOfBoundsException IllegalStateException",
            "boolean fits(int, int) IndexOutOfBoundsException IllegalStateException",
            "boolean matches(int, int) IndexOutOfBoundsException IllegalStateException"));
        TreeSet<String> got = new TreeSet<>();
        for (Method m : SchemaReader.class.getDeclaredMethods()) {
            if (!Modifier.isPrivate(m.getModifiers())) {
                got.add(told(m));
            }
        }
        kit.due("methods", got.toString(), due.toString());
        kit.due("fields that are not private", Arrays.stream(SchemaReader.class.getDeclaredFields())
            .filter(f -> !Modifier.isPrivate(f.getModifiers())).map(f -> f.toString()).toList().toString(),
            "[public static final int SchemaReader.NONE]");
        kit.due("constructors", Arrays.toString(SchemaReader.class.getDeclaredConstructors()), "[public SchemaReader()]");
        kit.due("the class", Modifier.toString(SchemaReader.class.getModifiers()), "public final");
        kit.end();
    }

    private static String told(Method m) {
        StringBuilder text = new StringBuilder(m.getReturnType() + " " + m.getName() + "(");
        text.append(String.join(", ", Arrays.stream(m.getParameterTypes()).map(Class::getName).toList())).append(")");
        for (Class<?> e : m.getExceptionTypes()) {
            text.append(' ').append(e.getSimpleName());
        }
        return text.toString();
    }
}
