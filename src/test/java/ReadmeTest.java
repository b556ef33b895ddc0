import java.io.IOException;
import java.lang.reflect.InvocationTargetException;
import java.lang.reflect.Method;
import java.lang.reflect.Modifier;
import java.nio.file.Files;
import java.nio.file.Path;
import java.util.List;
import java.util.regex.Matcher;
import java.util.regex.Pattern;
import java.util.stream.Stream;

/** What README.md says: its calls are made, line by line, and the answers behind "//" compared; names are looked up. */
public final class ReadmeTest {
    private static final Path README = Path.of("README.md");
    private static final Pattern LINE = Pattern.compile("game\\.(\\w+)\\((.*)\\);\\s+// ([^: ]+(?: \\w+Exception)?)(: .*)?");
    private static final String FIRST_LINE = "TowerShades game = new TowerShades();";

    public static void main(String[] args) throws IOException {
        String text = Files.readString(README);
        List<String> example = Files.readAllLines(README).stream()
                .dropWhile(line -> !line.equals("```java")).skip(1).takeWhile(line -> !line.equals("```")).toList();
        Due.same("the first line of the example", example.isEmpty() ? "" : example.get(0), FIRST_LINE);
        TowerShades game = new TowerShades();
        for (String line : example.subList(Math.min(1, example.size()), example.size())) {
            answerOf(game, line);
        }
        callsAreNamed(text);
        testsAreNamed(text);
        Due.finish();
    }

    private static void answerOf(TowerShades game, String line) {
        Matcher parts = LINE.matcher(line);
        boolean reads = parts.matches();
        Due.same("\"" + line + "\" is a call with an answer", reads, true);
        if (reads) {
            Due.same(line, made(game, parts.group(1), parts.group(2)), parts.group(3));
        }
    }

    private static String made(TowerShades game, String name, String given) {
        Object[] numbers = Stream.of(given.split(", ")).filter(word -> !word.isEmpty()).map(ReadmeTest::number).toArray();
        for (Method method : TowerShades.class.getMethods()) {
            if (method.getName().equals(name) && method.getParameterCount() == numbers.length) {
                return told(game, method, numbers);
            }
        }
        return "no such method";
    }

    private static String told(TowerShades game, Method method, Object[] numbers) {
        try {
            return method.invoke(game, numbers).toString();
        } catch (InvocationTargetException e) {
            return "throws " + e.getCause().getClass().getSimpleName();
        } catch (IllegalAccessException e) {
            return "not public";
        }
    }

    private static Integer number(String word) {
        return word.startsWith("'") ? word.charAt(1) : Integer.valueOf(word);
    }

    private static void callsAreNamed(String text) {
        for (Method method : TowerShades.class.getDeclaredMethods()) {
            if (Modifier.isPublic(method.getModifiers())) {
                Due.same(method.getName() + " is named", text.contains("`" + method.getName() + "`"), true);
            }
        }
        for (Class<?> inside : TowerShades.class.getDeclaredClasses()) {
            Due.same(inside + " is named", text.contains("`" + inside.getSimpleName() + "`"), true);
        }
    }

    private static void testsAreNamed(String text) throws IOException {
        try (Stream<Path> files = Files.list(Path.of("src/test/java"))) {
            for (Path file : files.toList()) {
                String name = file.getFileName().toString().replace(".java", "");
                Due.same(name + " is named", text.contains("`" + name + "`"), true);
            }
        }
        Matcher names = Pattern.compile("`(\\w+(?:Test|Edges|Model))`").matcher(text);
        while (names.find()) {
            Path file = Path.of("src/test/java", names.group(1) + ".java");
            Due.same(file + " stands there", Files.exists(file), true);
        }
    }
}
