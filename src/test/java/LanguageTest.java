import java.io.IOException;
import java.nio.file.Files;
import java.nio.file.Path;
import java.util.Set;
import java.util.TreeSet;
import java.util.regex.Matcher;
import java.util.regex.Pattern;

/** What LANGUAGE.md forbids in words, looked for in the program's text; no parser, so it sees the plain cases alone. */
public final class LanguageTest {
    private static final String[] FORBIDDEN = {"\\bimport\\b", "\\bpackage\\b", "\\btry\\b", "\\bcatch\\b", "\\bfinally\\b",
        "\\bsynchronized\\b", "\\bassert\\b", "->", "::", "@", "\\bDouble\\b", "\\bFloat\\b", "\\bObject\\b", "Exact\\(",
        "\\bstatic\\s*\\{", "\\bprotected\\b", "\\bextends\\b", "\\bvar\\b"};
    private static final String LIBRARY = "Math.max System.arraycopy";

    public static void main(String[] args) throws IOException {
        String whole = Files.readString(Path.of("src/main/java/TowerShades.java"));
        Due.same("signs above 127", whole.chars().filter(sign -> sign > 127).count(), 0);
        String code = whole.replaceAll("(?s)/\\*.*?\\*/", "").replaceAll("//.*", "").replaceAll("\"[^\"]*\"", "\"\"");
        for (String pattern : FORBIDDEN) {
            Due.same(pattern + " stands there", Pattern.compile(pattern).matcher(code).find(), false);
        }
        Set<String> used = new TreeSet<>();
        Matcher calls = Pattern.compile("\\b(Math|System|Integer|Long|Arrays|String)\\.\\w+").matcher(code);
        while (calls.find()) {
            used.add(calls.group());
        }
        Due.same("library", String.join(" ", used), LIBRARY);
        madeOnlyOnce(code);
        Due.finish();
    }

    /** Room: no call makes a row or an object, but for the exceptions. */
    private static void madeOnlyOnce(String code) {
        Matcher made = Pattern.compile("(?m)^(.*)\\bnew (\\w+)").matcher(code);
        while (made.find()) {
            String line = made.group(1).trim();
            boolean once = line.startsWith("private final") || line.matches("(field|text|saved|slotNumbers|slotFilled) =");
            Due.same(made.group() + " is a row made once or an exception", once || line.equals("throw"), true);
        }
    }
}
