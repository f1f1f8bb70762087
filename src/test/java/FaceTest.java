import java.lang.reflect.Constructor;
import java.lang.reflect.Field;
import java.lang.reflect.Method;
import java.lang.reflect.Modifier;
import java.util.Arrays;
import java.util.List;
import java.util.TreeSet;

/** The class has the document's face and nothing else that others can see. */
public final class FaceTest {
    private static final List<String> FACE = List.of(
            "int piece(int, int, boolean) IllegalArgumentException UnsupportedOperationException",
            "int join(int, int, int, int, int) IllegalArgumentException UnsupportedOperationException",
            "int lift(int, int, int) IllegalArgumentException UnsupportedOperationException",
            "int turn(int, int, boolean) IllegalArgumentException",
            "void width(int, int) IllegalArgumentException",
            "int zone(int, int, boolean) IllegalArgumentException",
            "int closed(int, boolean) IllegalArgumentException",
            "int robot(int) IllegalArgumentException UnsupportedOperationException",
            "int way(int, int, int, int) IllegalArgumentException",
            "int step(int)",
            "boolean same(int, int, int, int) IllegalArgumentException",
            "int charger(int) IllegalArgumentException IllegalStateException"
                    + " UnsupportedOperationException",
            "int nearest(int, int, int) IllegalArgumentException",
            "int table(int, int) IllegalStateException ArrayIndexOutOfBoundsException",
            "int rows()",
            "int plain(int, int, int, int, int) IllegalArgumentException",
            "int count(int)");

    private static String told(Method method) {
        StringBuilder text = new StringBuilder();
        text.append(method.getReturnType().getSimpleName()).append(' ').append(method.getName());
        text.append('(');
        text.append(String.join(", ", names(method.getParameterTypes())));
        text.append(')');
        for (String name : names(method.getExceptionTypes())) {
            text.append(' ').append(name);
        }
        return text.toString();
    }

    private static List<String> names(Class<?>[] types) {
        return Arrays.stream(types).map(Class::getSimpleName).toList();
    }

    public static void main(String[] args) {
        Check check = new Check();
        check.name("face");
        check.due("modifiers of the class", FloorGraph.class.getModifiers(),
                Modifier.PUBLIC | Modifier.FINAL);
        TreeSet<String> seen = new TreeSet<>();
        TreeSet<String> hidden = new TreeSet<>();
        for (Method method : FloorGraph.class.getDeclaredMethods()) {
            if (Modifier.isPrivate(method.getModifiers())) {
                hidden.add(method.getName());
            } else {
                seen.add(told(method));
                check.due(method.getName() + " is public and no more",
                        method.getModifiers(), Modifier.PUBLIC);
            }
        }
        check.due("methods", seen.toString(), new TreeSet<>(FACE).toString());
        for (String line : FACE) {
            String name = line.substring(line.indexOf(' ') + 1, line.indexOf('('));
            check.due("a private " + name, hidden.contains(name), false);
        }
        for (Field field : FloorGraph.class.getDeclaredFields()) {
            check.due(field.getName() + " is private",
                    Modifier.isPrivate(field.getModifiers()), true);
        }
        Constructor<?>[] constructors = FloorGraph.class.getDeclaredConstructors();
        check.due("constructors", constructors.length, 1);
        check.due("modifiers of the constructor",
                constructors[0].getModifiers(), Modifier.PUBLIC);
        check.due("parameters of the constructor", constructors[0].getParameterCount(), 0);
        check.end("FaceTest");
    }
}
