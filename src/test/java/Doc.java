import java.io.IOException;
import java.nio.file.Files;
import java.nio.file.Path;
import java.util.Map;
import java.util.TreeMap;
import java.util.regex.Matcher;
import java.util.regex.Pattern;

/** The document, by headings: what the tests quote of it must stand there, and no clause may stay without a test. */
final class Doc {
    private static final Path PLACE = Path.of("../shared/DOC.md");
    private static final Pattern CLAUSE_END = Pattern.compile("(?<=[^.]\\.|\\.\\))\\s+|;\\s+|\\n");
    private static final Pattern NO_CLAUSE = Pattern.compile("|A game of shadows cast by towers.*");

    private final Map<String, String> texts = new TreeMap<>();
    private final Map<String, boolean[]> quoted = new TreeMap<>();

    Doc() throws IOException {
        StringBuilder text = new StringBuilder();
        String heading = "";
        boolean code = false;
        for (String line : Files.readAllLines(PLACE)) {
            if (line.startsWith("#") || line.equals("Snapshots, undo")) {
                close(heading, text);
                heading = line.replaceAll("^#+ ", "").replaceAll(":.*", "");
            } else if (line.startsWith("```")) {
                code = !code;
            } else if (!code) {
                text.append(line).append('\n');
            }
        }
        texts.remove("Not promised");
    }

    private void close(String heading, StringBuilder text) {
        texts.put(heading, text.toString());
        quoted.put(heading, new boolean[text.length()]);
        text.setLength(0);
    }

    void quote(String heading, String words) {
        int start = texts.getOrDefault(heading, "").indexOf(words);
        Due.same("the place of \"" + words + "\" under " + heading + " is found", start >= 0 ? 1 : 0, 1);
        for (int i = 0; start >= 0 && i < words.length(); i++) {
            quoted.get(heading)[start + i] = true;
        }
    }

    /** Tells each clause that no test has quoted, in whole or in part. */
    void tellUnquoted() {
        for (Map.Entry<String, String> section : texts.entrySet()) {
            String text = section.getValue();
            Matcher ends = CLAUSE_END.matcher(text);
            int start = 0;
            while (ends.find()) {
                tellIfUnquoted(section.getKey(), text, start, ends.start());
                start = ends.end();
            }
        }
    }

    private void tellIfUnquoted(String heading, String text, int start, int end) {
        String clause = text.substring(start, end);
        boolean found = NO_CLAUSE.matcher(clause).matches();
        for (int i = start; i < end; i++) {
            found |= quoted.get(heading)[i];
        }
        Due.same("quotes of \"" + clause + "\" under " + heading, found ? 1 : 0, 1);
    }
}
