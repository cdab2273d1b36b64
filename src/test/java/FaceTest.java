import java.lang.reflect.Constructor;
import java.lang.reflect.Field;
import java.lang.reflect.Member;
import java.lang.reflect.Method;
import java.lang.reflect.Modifier;
import java.util.ArrayList;
import java.util.Arrays;
import java.util.List;
import java.util.Set;
import java.util.TreeSet;

/** The public face of the class is the document's: nothing lacks, nothing is there besides. */
public final class FaceTest {
    private static final String I = "IndexOutOfBoundsException";
    private static final String A = "IllegalArgumentException";
    private static final String S = "IllegalStateException";

    private static final String[] METHODS = {
        "int begin(1) " + A,
        "int put(3) " + I + " " + A + " " + S,
        "int take(2) " + I + " " + S,
        "int carry(4) " + I + " " + S,
        "int paint(3) " + I + " " + A + " " + S,
        "int turn(0)",
        "int cutOff(1) " + A,
        "int hour(1) " + A,
        "int append(1) " + A + " " + S,
        "int clearBuffer(0)",
        "int firstError(0)",
        "int build(0) " + A,
        "int undo(0) " + S,
        "int stack(3) " + I + " " + A,
        "int block(4) " + I + " " + A,
        "int picture(4) " + A,
        "int elevation(3) " + I + " " + A,
        "int cut(2) " + I + " " + A,
        "int count(1) " + A,
        "int ifPut(3) " + I + " " + A,
        "int ifHour(1) " + A,
        "int brightest(0)",
        "int same(1) " + A,
        "int bestTurn(0)",
        "double seenShare(0)",
        "long digest(0)",
    };

    private static String told(Method method) {
        StringBuilder text = new StringBuilder();
        text.append(method.getReturnType().getName()).append(' ').append(method.getName());
        text.append('(').append(method.getParameterCount()).append(')');
        for (Class<?> type : method.getParameterTypes()) {
            if (type != int.class) {
                text.append(" not int: ").append(type.getName());
            }
        }
        for (Class<?> thrown : method.getExceptionTypes()) {
            text.append(' ').append(thrown.getSimpleName());
        }
        return text.toString();
    }

    private static boolean hidden(Member member) {
        return Modifier.isPrivate(member.getModifiers()) || member.isSynthetic();
    }

    public static void main(String[] args) {
        Checks checks = new Checks();
        Class<SlantYard> face = SlantYard.class;
        checks.due("modifiers", Modifier.PUBLIC | Modifier.FINAL, face::getModifiers);
        checks.due("package", "", face::getPackageName);

        Set<String> want = new TreeSet<>(Arrays.asList(METHODS));
        Set<String> open = new TreeSet<>();
        Set<String> names = new TreeSet<>();
        for (Method method : face.getDeclaredMethods()) {
            if (!hidden(method)) {
                open.add(told(method));
                names.add(method.getName());
                checks.due(method + " modifiers", Modifier.PUBLIC, method::getModifiers);
            }
        }
        checks.due("methods", want, () -> open);
        for (Method method : face.getDeclaredMethods()) {
            if (hidden(method)) {
                checks.due(method + " bears a public name", false, () -> names.contains(method.getName()));
            }
        }

        List<String> fields = new ArrayList<>();
        for (Field field : face.getDeclaredFields()) {
            if (!hidden(field)) {
                fields.add(Modifier.toString(field.getModifiers()) + " " + field.getType() + " " + field.getName());
            }
        }
        checks.due("constants", List.of("public static final int NONE"), () -> fields);
        for (Constructor<?> constructor : face.getDeclaredConstructors()) {
            checks.due("constructor", "public SlantYard()", constructor::toString);
        }
        for (Class<?> inner : face.getDeclaredClasses()) {
            checks.due(inner + " is public or protected", 0,
                () -> inner.getModifiers() & (Modifier.PUBLIC | Modifier.PROTECTED));
        }
        checks.end();
    }
}
