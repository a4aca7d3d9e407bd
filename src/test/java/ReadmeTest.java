import java.io.IOException;
import java.nio.file.DirectoryStream;
import java.nio.file.Files;
import java.nio.file.Path;
import java.util.HashMap;
import java.util.List;
import java.util.Map;
import java.util.regex.Matcher;
import java.util.regex.Pattern;

/** README.md tells the truth: its calls answer what stands behind them, and it names each test. */
public final class ReadmeTest {
    private static final Pattern CALL = Pattern.compile(
            "(?:int (\\w+) = )?priory\\.(\\w+)\\((.*)\\);\\s+// (-?\\d+|true|false)(?::.*)?");

    private final MailPriory priory = new MailPriory();
    /** The numbers behind the words that the calls use as arguments. */
    private final Map<String, Integer> known = new HashMap<>(Map.of(
            "true", 1, "false", 0, "MailPriory.NONE", MailPriory.NONE,
            "MailPriory.DIRECT", MailPriory.DIRECT, "MailPriory.DIGEST", MailPriory.DIGEST));

    public static void main(String[] args) throws IOException {
        List<String> readme = Files.readAllLines(Path.of("README.md"));
        new ReadmeTest().makeCalls(readme);
        namesEachTest(String.join("\n", readme));
        Check.end();
    }

    private void makeCalls(List<String> readme) {
        int first = readme.indexOf("MailPriory priory = new MailPriory();") + 1;
        Check.isTrue("README.md has an example", first > 0);
        for (int k = first; k < readme.size() && !readme.get(k).startsWith("```"); k++) {
            if (!readme.get(k).isEmpty()) {
                makeCall(readme.get(k));
            }
        }
    }

    private void makeCall(String line) {
        Matcher call = CALL.matcher(line);
        Check.isTrue("a call and its answer: " + line, call.matches());
        if (call.matches()) {
            String got = new Call(call.group(2), numbers(call.group(3))).on(priory);
            Check.isTrue("README.md tells the answer (it is " + got + "): " + line,
                    got.equals("" + number(call.group(4))));
            if (call.group(1) != null) {
                known.put(call.group(1), number(call.group(4)));
            }
        }
    }

    private int[] numbers(String arguments) {
        String[] told = arguments.split(", ");
        int[] numbers = new int[told.length];
        for (int k = 0; k < told.length; k++) {
            numbers[k] = number(told[k]);
        }
        return numbers;
    }

    private int number(String told) {
        return known.containsKey(told) ? known.get(told) : Integer.parseInt(told);
    }

    private static void namesEachTest(String readme) throws IOException {
        try (DirectoryStream<Path> tests =
                Files.newDirectoryStream(Path.of("src/test/java"), "*Test.java")) {
            for (Path test : tests) {
                String name = test.getFileName().toString().replace(".java", "");
                Check.isTrue("README.md names " + name, readme.contains("| `" + name + "` |"));
            }
        }
    }
}
