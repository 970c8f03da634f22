import java.io.IOException;
import java.lang.reflect.Method;
import java.nio.file.Files;
import java.nio.file.Path;
import java.util.List;
import java.util.regex.Matcher;
import java.util.regex.Pattern;
import java.util.stream.Collectors;
import java.util.stream.Stream;

/** README.md is true: its example answers what it says, and it names every call, every answer and every test there is. */
public final class ReadmeTest {
    private static final Pattern CALL = Pattern.compile("(?m)^    mint\\.(\\w+)\\(([^)]*)\\); +// (-?\\d+)\\b.*$");
    private static final Pattern TELL = Pattern.compile("(?m)^    tell\\(mint, \"([^\"]*)\"\\); +// (-?\\d+)\\b.*$");
    private static final Pattern LINE = Pattern.compile("(?m)^    (mint\\.|tell\\().*$");
    private static final Pattern IN_FACE = Pattern.compile("public int (\\w+)\\(([^)]*)\\);");
    private static final Due due = new Due();

    public static void main(String[] args) throws IOException, ReflectiveOperationException {
        String page = Files.readString(Path.of("README.md"));
        example(page);
        sampleText(page);
        helper(page);
        face(page);
        constants(page);
        tests(page);
        due.end();
    }

    private static void example(String page) throws ReflectiveOperationException {
        CrabMint mint = new CrabMint();
        int lines = 0;
        Matcher line = LINE.matcher(page);
        while (line.find()) {
            lines++;
            Matcher call = CALL.matcher(line.group());
            Matcher tell = TELL.matcher(line.group());
            if (call.matches()) {
                due.is(line.group(), answer(mint, call.group(1), call.group(2)), Integer.parseInt(call.group(3)));
            } else if (tell.matches()) {
                due.is(line.group(), Due.tell(mint, tell.group(1)), Integer.parseInt(tell.group(2)));
            } else {
                due.holds("a call with its answer: " + line.group(), false);
            }
        }
        due.holds("an example", lines > 20);
    }

    private static int answer(CrabMint mint, String name, String words) throws ReflectiveOperationException {
        String[] given = words.isEmpty() ? new String[0] : words.split(", ");
        for (Method m : CrabMint.class.getMethods()) {
            if (m.getName().equals(name) && m.getParameterCount() == given.length) {
                Object[] values = new Object[given.length];
                for (int i = 0; i < given.length; i++) {
                    boolean isNumber = m.getParameterTypes()[i] == int.class;
                    values[i] = isNumber ? (Object) Integer.valueOf(given[i]) : Boolean.valueOf(given[i]);
                }
                return (Integer) m.invoke(mint, values);
            }
        }
        throw new IllegalArgumentException("no call " + name + " of " + given.length);
    }

    private static void sampleText(String page) {
        Matcher text = Pattern.compile("(?m)^    (places .*;)$").matcher(page);
        due.holds("a text", text.find());
        String sample = text.group(1);
        due.is(sample, Due.tell(new CrabMint(), sample), sample.chars().filter(c -> c == ';').count());
    }

    private static void helper(String page) throws IOException {
        Matcher code = Pattern.compile("(?s)    static void feed\\(.*?\n    }\n\n    static int tell\\(.*?\n    }\n").matcher(page);
        due.holds("a helper", code.find());
        due.holds("the helper is that of Due", Files.readString(Path.of("src/test/java/Due.java")).contains(code.group()));
    }

    private static void face(String page) throws IOException {
        Matcher call = IN_FACE.matcher(Files.readString(Path.of("../shared/DOC.md")));
        int calls = 0;
        while (call.find()) {
            calls++;
            String shown = "| `" + call.group(1) + "(" + call.group(2).replaceAll("\\w+ (\\w+)", "$1") + ")` |";
            due.is(shown, page.split(Pattern.quote(shown), -1).length - 1, 1);
        }
        due.is("calls in the document's face", calls, 35);
    }

    private static void constants(String page) {
        due.holds("BAD", page.contains("| `BAD` (" + CrabMint.BAD + ") |"));
        due.holds("STATE", page.contains("| `STATE` (" + CrabMint.STATE + ") |"));
        due.holds("FULL", page.contains("| `FULL` (" + CrabMint.FULL + ") |"));
        due.holds("NONE", page.contains("| `NONE` (" + CrabMint.NONE + ") |"));
    }

    private static void tests(String page) throws IOException {
        try (Stream<Path> files = Files.list(Path.of("src/test/java"))) {
            List<String> names = files.map(f -> f.getFileName().toString()).filter(f -> f.endsWith("Test.java"))
                .map(f -> f.replace(".java", "")).collect(Collectors.toList());
            for (String name : names) {
                due.holds("names " + name, page.contains("`" + name + "`"));
            }
        }
    }
}
