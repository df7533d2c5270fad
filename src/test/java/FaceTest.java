import java.lang.reflect.Constructor;
import java.lang.reflect.Field;
import java.lang.reflect.Method;
import java.lang.reflect.Modifier;
import java.util.Arrays;
import java.util.TreeSet;

/** The class's face: all that the document names, and no member beside it that another class could see. */
public final class FaceTest {
    private static final String[] METHODS = {
        "int sign(int,int,int,int,int) IndexOutOfBoundsException IllegalArgumentException UnsupportedOperationException",
        "int form() UnsupportedOperationException",
        "int formSign(int,int,int,int,int) IndexOutOfBoundsException IllegalArgumentException UnsupportedOperationException",
        "int use(int,int,int,int) IndexOutOfBoundsException IllegalArgumentException UnsupportedOperationException",
        "int word() UnsupportedOperationException",
        "int letter(int,int) IndexOutOfBoundsException IllegalArgumentException UnsupportedOperationException",
        "int area(int,int,int,int,int) IndexOutOfBoundsException IllegalArgumentException UnsupportedOperationException",
        "int store(int) IllegalArgumentException UnsupportedOperationException",
        "int octet(int,byte) IndexOutOfBoundsException UnsupportedOperationException",
        "int black() UnsupportedOperationException",
        "int look()",
        "int left(int,int) IndexOutOfBoundsException",
        "int at(int,int,int,int) IndexOutOfBoundsException",
        "byte byteOf(int,int) IndexOutOfBoundsException",
        "int formOf(int) IndexOutOfBoundsException",
        "int many(int,int) IndexOutOfBoundsException",
        "int told(int)",
    };

    private FaceTest() {
    }

    public static void main(String[] args) {
        Check.due("NONE", RedactCheck.NONE, -1);
        Check.due("the class's modifiers", RedactCheck.class.getModifiers(), Modifier.PUBLIC | Modifier.FINAL);
        Check.same("the methods", methods().toString(), new TreeSet<>(Arrays.asList(METHODS)).toString());
        for (Constructor<?> made : RedactCheck.class.getDeclaredConstructors()) {
            Check.same("constructor", made.toString(), "public RedactCheck()");
        }
        for (Field field : RedactCheck.class.getDeclaredFields()) {
            boolean hidden = Modifier.isPrivate(field.getModifiers()) || field.getName().equals("NONE");
            Check.due("field " + field.getName() + " hidden", hidden ? 1 : 0, 1);
        }
        for (Class<?> inside : RedactCheck.class.getDeclaredClasses()) {
            Check.due(inside.getName() + " static", Modifier.isStatic(inside.getModifiers()) ? 1 : 0, 1);
        }
        Check.end();
    }

    private static TreeSet<String> methods() {
        TreeSet<String> found = new TreeSet<>();
        for (Method method : RedactCheck.class.getDeclaredMethods()) {
            if (!Modifier.isPrivate(method.getModifiers())) {
                found.add(line(method));
            }
        }
        return found;
    }

    private static String line(Method method) {
        StringBuilder text = new StringBuilder();
        text.append(method.getReturnType().getSimpleName()).append(' ').append(method.getName()).append('(');
        String comma = "";
        for (Class<?> parameter : method.getParameterTypes()) {
            text.append(comma).append(parameter.getSimpleName());
            comma = ",";
        }
        text.append(')');
        for (Class<?> thrown : method.getExceptionTypes()) {
            text.append(' ').append(thrown.getSimpleName());
        }
        return text.toString();
    }
}
