import java.io.File;
import java.io.IOException;
import java.nio.charset.StandardCharsets;
import java.nio.file.Files;
import java.nio.file.Path;
import java.util.regex.Matcher;
import java.util.regex.Pattern;

/** README.md is true: the calls of its example answer what stands behind them, its tables miss no act and no test. */
public final class ReadmeTest {
    private static final Pattern CALL = Pattern.compile("x\\.(\\w+)\\(([^)]*)\\);\\s+// (throws|-?\\d+)\\b.*");
    private static final Pattern ACT = Pattern.compile("\\| (\\d+) \\| ([A-Z]+) ");
    private static final int EXAMPLE_CALLS = 28;

    private static int[] callOf(String name, String arguments) {
        String[] texts = arguments.isEmpty() ? new String[0] : arguments.split(", ");
        int[] call = new int[texts.length + 1];
        call[0] = Counted.numberOf(name);
        for (int i = 0; i < texts.length; i++) {
            call[i + 1] = Integer.parseInt(texts[i]);
        }
        return call;
    }

    private static void playExample(String readme) {
        Counted x = new Counted();
        for (String line : readme.split("\n")) {
            Matcher call = CALL.matcher(line);
            if (call.matches()) {
                long want = call.group(3).equals("throws") ? Counted.THROWS : Long.parseLong(call.group(3));
                Check.due(line, x.answer(callOf(call.group(1), call.group(2))), want);
            }
        }
        Check.due("calls of the example", x.calls(), EXAMPLE_CALLS);
    }

    private static void readActs(String readme) {
        Matcher act = ACT.matcher(readme);
        int found = 0;
        while (act.find()) {
            found++;
            Check.due("kind of " + act.group(2), Integer.parseInt(act.group(1)), Script.kindOf(act.group(2)));
        }
        Check.due("acts in the table", found, 17);
    }

    private static void readTests(String readme) {
        String[] files = new File("src/test/java").list();
        Check.due("there are tests", files == null ? 0 : 1, 1);
        for (String file : files == null ? new String[0] : files) {
            String test = file.replace(".java", "");
            if (test.endsWith("Test")) {
                Check.due(test + " in the table of tests", readme.contains("\n| `" + test + "` |") ? 1 : 0, 1);
            }
        }
    }

    public static void main(String[] args) throws IOException {
        String readme = Files.readString(Path.of("README.md"), StandardCharsets.UTF_8);
        playExample(readme);
        readActs(readme);
        readTests(readme);
        Check.end();
    }
}
