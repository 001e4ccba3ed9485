import java.io.IOException;
import java.lang.reflect.InvocationTargetException;
import java.lang.reflect.Method;
import java.nio.file.Files;
import java.nio.file.Path;
import java.util.Arrays;
import java.util.Comparator;
import java.util.HashMap;
import java.util.List;
import java.util.Map;
import java.util.regex.Matcher;
import java.util.regex.Pattern;
import java.util.stream.Collectors;

/**
 * Runs every test of a boundary case: a method with the document's words, named after the promise and the case.
 * Then the document is gone through: no promise may be without a test, and none of its words unsaid.
 */
public final class EdgesTest {
    private static final Path DOC = Path.of("../shared/DOC.md");
    private static final List<Class<?>> EDGES = List.of(EdgesOfTexts.class, EdgesOfLaws.class, EdgesOfPulls.class,
        EdgesAhead.class, EdgesOfJuries.class, EdgesBehind.class);
    private static final int PROMISES = 37;
    private static final Pattern NAME = Pattern.compile("p(\\d\\d)_([a-z]+)_[a-zA-Z0-9]+");
    /** The terms stand here as the section with number 0. */
    private static final int TERMS = 0;

    private final Map<Integer, String> sections = new HashMap<>();
    private final Map<Integer, boolean[]> said = new HashMap<>();
    private final Map<Integer, String> titles = new HashMap<>();
    private final int[] tests = new int[PROMISES + 1];

    public static void main(String[] args) throws IOException, IllegalAccessException {
        EdgesTest all = new EdgesTest(Files.readString(DOC));
        for (Class<?> edges : EDGES) {
            List<Method> methods = Arrays.stream(edges.getDeclaredMethods()).filter(m -> m.isAnnotationPresent(Says.class))
                .sorted(Comparator.comparing(Method::getName)).collect(Collectors.toList());
            for (Method method : methods) {
                all.run(method);
            }
        }
        Due.begin("");
        all.lookForGaps();
        System.out.println(Arrays.stream(all.tests).sum() + " tests of boundary cases");
        Due.end("EdgesTest");
    }

    private EdgesTest(String doc) {
        int from = doc.indexOf("## Terms");
        String[] parts = doc.substring(from, doc.indexOf("## Not promised")).split("(?m)^## ");
        for (String part : parts) {
            Matcher promise = Pattern.compile("^Promise (\\d+): (.*)").matcher(part);
            if (promise.find()) {
                take(Integer.parseInt(promise.group(1)), part);
                titles.put(Integer.parseInt(promise.group(1)), promise.group(2).trim());
            } else if (part.startsWith("Terms")) {
                take(TERMS, part);
            }
        }
    }

    /** What a section says, without its heading and its code. */
    private void take(int number, String part) {
        String bare = part.replaceFirst(".*\n", " ").replaceAll("(?m)^```.*$", " ").replaceAll("`[^`\n]*`:", " ")
            .replaceAll("==== [IV]+\\.", " ").replaceAll("\\s+", " ");
        sections.put(number, bare);
        said.put(number, new boolean[bare.length()]);
    }

    private void run(Method test) throws IllegalAccessException {
        Matcher name = NAME.matcher(test.getName());
        Due.begin(test.getName());
        if (!name.matches()) {
            Due.fails("is not named after a promise and a case");
            return;
        }
        int promise = Integer.parseInt(name.group(1));
        String title = promise == 1 ? "new" : titles.get(promise);
        if (!name.group(2).equals(title)) {
            Due.fails("promise " + promise + " is that of " + title);
            return;
        }
        tests[promise]++;
        for (String words : test.getAnnotation(Says.class).value()) {
            mark(promise, words);
        }
        try {
            test.invoke(null);
        } catch (InvocationTargetException e) {
            Due.fails("threw " + e.getCause());
        }
    }

    private void mark(int promise, String words) {
        int section = sections.get(promise).contains(words) ? promise : TERMS;
        String text = sections.get(section);
        int at = text.indexOf(words);
        if (at < 0 || text.indexOf(words, at + 1) >= 0) {
            Due.fails((at < 0 ? "the document does not say: " : "the document says more than once: ") + words);
            return;
        }
        Arrays.fill(said.get(section), at, at + words.length(), true);
    }

    private void lookForGaps() {
        for (int number = 0; number <= PROMISES; number++) {
            if (number > 0 && tests[number] == 0) {
                Due.fails("promise " + number + " has no test of a boundary case");
            }
            String text = sections.get(number);
            StringBuilder left = new StringBuilder();
            for (int i = 0; i < text.length(); i++) {
                left.append(said.get(number)[i] ? '\t' : text.charAt(i));
            }
            for (String gap : left.toString().split("\t+")) {
                if (gap.matches(".*[a-zA-Z0-9].*")) {
                    Due.fails("no test says these words of section " + number + ": " + gap);
                }
            }
        }
    }
}
