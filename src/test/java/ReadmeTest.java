import java.io.IOException;
import java.nio.file.Files;
import java.nio.file.Path;
import java.util.regex.Matcher;
import java.util.regex.Pattern;

/** The text and the calls that README.md shows: each call answers what stands behind it. */
public final class ReadmeTest {
    private static final Pattern TEXT = Pattern.compile("(?s)```text\n(.*?)```");
    private static final Pattern CALL = Pattern.compile("(?m)^court\\.(\\w+)\\((.*)\\); +// (true|false|-?\\d+)");

    public static void main(String[] args) throws IOException {
        String readme = Files.readString(Path.of("README.md"));
        Matcher text = TEXT.matcher(readme);
        PuppetCourt court = Due.court(text.find() ? text.group(1) : "?");
        Matcher call = CALL.matcher(readme);
        int calls = 0;
        while (call.find()) {
            calls++;
            int[] given = new int[3];
            String[] parts = call.group(2).isEmpty() ? new String[0] : call.group(2).split(", ");
            for (int i = 0; i < parts.length; i++) {
                given[i] = number(parts[i]);
            }
            Due.is("README.md: " + call.group(1) + "(" + call.group(2) + ")",
                Face.call(court, call.group(1), given[0], given[1], given[2], null), number(call.group(3)));
        }
        Due.is("README.md shows calls", calls > 20, true);
        Due.end("ReadmeTest");
    }

    private static int number(String shown) {
        switch (shown) {
            case "true":
                return 1;
            case "false":
                return 0;
            case "NONE":
                return PuppetCourt.NONE;
            default:
                return Integer.parseInt(shown);
        }
    }
}
