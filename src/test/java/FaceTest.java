import java.lang.reflect.Constructor;
import java.lang.reflect.Field;
import java.lang.reflect.Method;
import java.lang.reflect.Modifier;
import java.util.Set;
import java.util.TreeSet;

/** The public face: what the document lists, and nothing else that can be seen from outside. */
final class FaceTest {
    public static void main(String[] args) {
        Set<String> want = new TreeSet<>(Set.of(
            "int type(long,int) throws java.lang.IllegalArgumentException,java.lang.IllegalStateException",
            "int read()", "int write()",
            "int written(int) throws java.lang.IndexOutOfBoundsException",
            "int top()",
            "int down(int) throws java.lang.IndexOutOfBoundsException",
            "int up() throws java.lang.IllegalStateException",
            "int kind()", "int value()",
            "int letter(int) throws java.lang.IllegalStateException,java.lang.IndexOutOfBoundsException",
            "int key(int) throws java.lang.IllegalStateException"));
        Set<String> got = new TreeSet<>();
        Set<String> publicNames = new TreeSet<>();
        for (Method method : TableText.class.getDeclaredMethods()) {
            if (!Modifier.isPrivate(method.getModifiers())) {
                got.add(method.toGenericString().replace("public ", "").replace("TableText.", ""));
                publicNames.add(method.getName());
            }
        }
        Due.same("the methods", got.toString(), want.toString());
        Due.same("the class", Modifier.toString(TableText.class.getModifiers()), "public final");
        Constructor<?>[] made = TableText.class.getDeclaredConstructors();
        Due.same("the constructors", made.length + " " + made[0], "1 public TableText()");
        for (Field field : TableText.class.getDeclaredFields()) {
            Due.same("is private: " + field, "" + Modifier.isPrivate(field.getModifiers()), "true");
            boolean changes = Modifier.isStatic(field.getModifiers()) && !Modifier.isFinal(field.getModifiers());
            Due.same("is no static state: " + field, "" + changes, "false");
        }
        noPrivateMethodBearsAPublicName(publicNames);
        Due.end();
    }

    private static void noPrivateMethodBearsAPublicName(Set<String> publicNames) {
        for (Class<?> inside : TableText.class.getDeclaredClasses()) {
            Due.same("is static: " + inside, "" + Modifier.isStatic(inside.getModifiers()), "true");
            for (Method method : inside.getDeclaredMethods()) {
                boolean bears = Modifier.isPrivate(method.getModifiers()) && publicNames.contains(method.getName());
                Due.same("bears a public name: " + method, "" + bears, "false");
            }
        }
    }
}
