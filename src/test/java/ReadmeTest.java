import java.io.IOException;
import java.nio.file.Files;
import java.nio.file.Path;
import java.util.ArrayList;
import java.util.List;
import java.util.regex.Matcher;
import java.util.regex.Pattern;

/** The example of README.md, call by call: it shall not say what the class does not do. */
final class ReadmeTest {
    /** {@code name = rights.call(arguments); // answer: words}, all but the call and the answer as one likes. */
    private static final Pattern LINE =
            Pattern.compile("(?:int (\\w+) = )?rights\\.(\\w+)\\((.*)\\); +// (-?\\d+|true|false)(?::.*)?");

    private final Checks checks = new Checks();
    private final RecordRights rights = new RecordRights();
    private final List<String> names = new ArrayList<>();
    private final List<Long> numbers = new ArrayList<>();

    public static void main(String[] args) throws IOException {
        ReadmeTest test = new ReadmeTest();
        for (String line : example(Files.readAllLines(Path.of("README.md")))) {
            test.run(line);
        }
        test.checks.end();
    }

    private static List<String> example(List<String> readme) {
        int from = readme.indexOf("RecordRights rights = new RecordRights();");
        List<String> lines = new ArrayList<>();
        for (int k = from + 1; from >= 0 && !readme.get(k).equals("```"); k++) {
            if (!readme.get(k).isEmpty()) {
                lines.add(readme.get(k));
            }
        }
        return lines;
    }

    private void run(String line) {
        Matcher parts = LINE.matcher(line);
        if (!parts.matches()) {
            checks.holds("no call with its answer: " + line, false);
            return;
        }
        long got = Calls.call(rights, parts.group(2), arguments(parts.group(3)));
        checks.equal(line, got, number(parts.group(4)));
        if (parts.group(1) != null) {
            names.add(parts.group(1));
            numbers.add(got);
        }
    }

    private long[] arguments(String text) {
        String[] words = text.isEmpty() ? new String[0] : text.split(", ");
        long[] arguments = new long[words.length];
        for (int k = 0; k < words.length; k++) {
            arguments[k] = number(words[k]);
        }
        return arguments;
    }

    private long number(String word) {
        if (names.contains(word)) {
            return numbers.get(names.indexOf(word));
        }
        switch (word) {
            case "true": return 1;
            case "false": return 0;
            default: return Long.decode(word.replace("L", ""));
        }
    }
}
