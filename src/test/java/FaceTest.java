import java.lang.reflect.Constructor;
import java.lang.reflect.Field;
import java.lang.reflect.Method;
import java.lang.reflect.Modifier;
import java.util.Arrays;
import java.util.Set;
import java.util.TreeSet;
import java.util.stream.Collectors;

/** The public face: the document's members, and no other one that is not private (LANGUAGE.md, rule 1). */
public final class FaceTest {
    private static final String[] METHODS = {
        "int raise(int) IndexOutOfBoundsException",
        "int rest()",
        "int crowd(int, int) IndexOutOfBoundsException, IllegalArgumentException",
        "int tear(int) IndexOutOfBoundsException",
        "int hour(int) IllegalArgumentException",
        "int append(int) IllegalArgumentException, IllegalStateException",
        "int clearBuffer()",
        "int firstError()",
        "int load() IllegalArgumentException",
        "int keep(int) IllegalArgumentException",
        "int goBack(int) IllegalArgumentException, IllegalStateException",
        "int undo() IllegalStateException",
        "int squareOf(int, int) IndexOutOfBoundsException, IllegalArgumentException",
        "int playerOf(int, int) IndexOutOfBoundsException, IllegalArgumentException",
        "int count(int) IllegalArgumentException",
        "int whyNot(int) IndexOutOfBoundsException",
        "int ifRaised(int) IndexOutOfBoundsException",
        "int bestSquare()",
        "int needed(int, int) IndexOutOfBoundsException",
        "int darkestHour()",
        "double darkShare()",
        "long digest()",
    };

    public static void main(String[] args) {
        Class<TowerShades> type = TowerShades.class;
        Due.same("public and final", type.getModifiers(), Modifier.PUBLIC | Modifier.FINAL);
        Set<String> due = new TreeSet<>(Arrays.asList(METHODS));
        Set<String> got = new TreeSet<>();
        for (Method method : type.getDeclaredMethods()) {
            if (!Modifier.isPrivate(method.getModifiers())) {
                Due.same(method + " is public only", method.getModifiers(), Modifier.PUBLIC);
                got.add(told(method));
            }
        }
        Due.same("methods", got, due);
        for (Field field : type.getDeclaredFields()) {
            boolean named = field.getName().equals("NONE");
            Due.same(field + " is public", Modifier.isPublic(field.getModifiers()), named);
            Due.same(field + " is private", Modifier.isPrivate(field.getModifiers()), !named);
        }
        for (Constructor<?> constructor : type.getDeclaredConstructors()) {
            Due.same("constructor", constructor.toString(), "public TowerShades()");
        }
        noNameTwice(type);
        Due.finish();
    }

    private static String told(Method method) {
        String parameters = names(method.getParameterTypes());
        String thrown = names(method.getExceptionTypes());
        String head = method.getReturnType().getSimpleName() + " " + method.getName() + "(" + parameters + ")";
        return thrown.isEmpty() ? head : head + " " + thrown;
    }

    private static String names(Class<?>[] types) {
        return Arrays.stream(types).map(Class::getSimpleName).collect(Collectors.joining(", "));
    }

    /** No private method bears the name of a public one, in the classes inside neither. */
    private static void noNameTwice(Class<?> type) {
        Set<String> named = new TreeSet<>();
        for (Method method : type.getDeclaredMethods()) {
            if (!Modifier.isPrivate(method.getModifiers())) {
                named.add(method.getName());
            }
        }
        for (Method method : type.getDeclaredMethods()) {
            if (Modifier.isPrivate(method.getModifiers())) {
                Due.same(method + " bears a public name", named.contains(method.getName()), false);
            }
        }
        for (Class<?> inside : type.getDeclaredClasses()) {
            Due.same(inside + " is static", Modifier.isStatic(inside.getModifiers()), true);
            for (Method method : inside.getDeclaredMethods()) {
                Due.same(method + " bears a public name", named.contains(method.getName()), false);
            }
        }
    }
}
