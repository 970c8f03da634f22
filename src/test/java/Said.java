import java.io.IOException;
import java.nio.file.Files;
import java.nio.file.Path;
import java.util.LinkedHashMap;
import java.util.Map;

/** The document's sentences: each test names the one that it is about, and in the end every sentence must have been named. */
final class Said {
    private static final Path DOCUMENT = Path.of("../shared/DOC.md");
    private static final int PROMISES = 36;

    private final Due due = new Due();
    private final Map<String, String> texts = new LinkedHashMap<>();
    private final Map<String, boolean[]> named = new LinkedHashMap<>();
    private String now = "";

    Said() throws IOException {
        for (String part : Files.readString(DOCUMENT).split("(?m)^## ")) {
            String heading = part.split("[:\n]", 2)[0].trim();
            if (heading.equals("Terms") || heading.startsWith("Promise ")) {
                String text = onlySentences(part.substring(part.indexOf('\n') + 1));
                texts.put(heading, text);
                named.put(heading, new boolean[text.length()]);
            }
        }
        due.is("Terms and promises in the document", texts.size(), 1 + PROMISES);
    }

    private static String onlySentences(String part) {
        return part.replaceAll("(?m)^Ahead of the calls.*$", " ").replaceAll("(?m)^```.*$", " ")
            .replaceAll("======== \\d", " ").replaceAll("(?m)^`[^`]*`:", " ").replaceAll("\\s+", " ").trim();
    }

    void term(String words) {
        name("Terms", words);
    }

    void promise(int n, String words) {
        name("Promise " + n, words);
    }

    private void name(String heading, String words) {
        now = heading + ", \"" + words + "\": ";
        int at = texts.getOrDefault(heading, "").indexOf(words);
        due.holds(now + "stands in the document", at >= 0);
        for (int i = at; at >= 0 && i < at + words.length(); i++) {
            named.get(heading)[i] = true;
        }
    }

    void is(String call, long got, long want) {
        due.is(now + call, got, want);
    }

    void are(String calls, int[] got, int... want) {
        due.are(now + calls, got, want);
    }

    void holds(String what, boolean is) {
        due.holds(now + what, is);
    }

    void end() {
        for (Map.Entry<String, String> entry : texts.entrySet()) {
            allNamed(entry.getKey(), entry.getValue(), named.get(entry.getKey()));
        }
        due.end();
    }

    private void allNamed(String heading, String text, boolean[] is) {
        StringBuilder left = new StringBuilder();
        for (int i = 0; i < text.length(); i++) {
            left.append(is[i] ? ' ' : text.charAt(i));
        }
        String rest = left.toString().replaceAll("[^A-Za-z0-9]+", " ").trim();
        due.holds(heading + ": no test names \"" + rest + "\"", rest.isEmpty());
    }
}
