import java.io.IOException;
import java.lang.reflect.Field;
import java.lang.reflect.Method;
import java.lang.reflect.Modifier;
import java.nio.file.Files;
import java.nio.file.Path;
import java.util.Set;
import java.util.TreeSet;
import java.util.regex.Matcher;
import java.util.regex.Pattern;

/** What LANGUAGE.md forbids in words, looked for in the program's text; no parser, so it sees the plain cases alone. */
public final class LanguageTest {
    private static final String[] FORBIDDEN = {"\\bimport\\b", "\\bpackage\\b", "\\btry\\b", "\\bcatch\\b", "\\bfinally\\b",
        "\\bsynchronized\\b", "\\bassert\\b", "->", "::", "@", "\\bDouble\\b", "\\bFloat\\b", "\\bObject\\b", "Exact\\(",
        "\\bstatic\\s*\\{", "\\bprotected\\b", "\\bextends\\b", "\\bvar\\b"};
    private static final Set<Class<?>> STATICS = Set.of(int.class, long.class, boolean.class, char.class, String.class,
        int[].class, long[].class, char[].class, byte[].class);
    private static final String LIBRARY = "Math.max System.arraycopy";

    public static void main(String[] args) throws IOException {
        String whole = Files.readString(Path.of("src/main/java/TowerShades.java"));
        Due.same("signs above 127", whole.chars().filter(sign -> sign > 127).count(), 0);
        String code = whole.replaceAll("(?s)/\\*.*?\\*/", "").replaceAll("//.*", "").replaceAll("\"[^\"]*\"", "\"\"");
        for (String pattern : FORBIDDEN) {
            Due.same(pattern + " stands there", Pattern.compile(pattern).matcher(code).find(), false);
        }
        Set<String> used = new TreeSet<>();
        Matcher calls = Pattern.compile("\\b(Math|System|Integer|Long|Arrays|String)\\.\\w+").matcher(code);
        while (calls.find()) {
            used.add(calls.group());
        }
        Due.same("library", String.join(" ", used), LIBRARY);
        madeOnlyOnce(code);
        sizes(TowerShades.class);
        Due.same("at most twelve classes", TowerShades.class.getDeclaredClasses().length < 12, true);
        for (Class<?> inside : TowerShades.class.getDeclaredClasses()) {
            sizes(inside);
        }
        Due.finish();
    }

    /** Room: no call makes a row or an object, but for the exceptions. */
    private static void madeOnlyOnce(String code) {
        Matcher made = Pattern.compile("(?m)^(.*)\\bnew (\\w+)").matcher(code);
        while (made.find()) {
            String line = made.group(1).trim();
            boolean once = line.startsWith("private final") || line.matches("(field|text|saved|slotNumbers|slotFilled) =");
            Due.same(made.group() + " is a row made once or an exception", once || line.equals("throw"), true);
        }
    }

    /** Rule 5: which static fields may be; rule 11: how many fields a class has, and parameters a method. */
    private static void sizes(Class<?> type) {
        int fields = 0;
        for (Field field : type.getDeclaredFields()) {
            if (Modifier.isStatic(field.getModifiers())) {
                Due.same(field + " is final", Modifier.isFinal(field.getModifiers()), true);
                Due.same(field + " may be static", STATICS.contains(field.getType()), true);
            } else {
                fields++;
            }
        }
        Due.same(type + " has at most twenty fields", fields <= 20, true);
        for (Method method : type.getDeclaredMethods()) {
            Due.same(method + " takes at most seven", method.getParameterCount() <= 7, true);
        }
    }
}
