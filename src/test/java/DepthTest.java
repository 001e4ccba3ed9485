import java.io.IOException;
import java.nio.file.Files;
import java.nio.file.Path;
import java.util.ArrayList;
import java.util.List;
import java.util.Map;
import java.util.TreeMap;
import java.util.TreeSet;
import java.util.regex.Matcher;
import java.util.regex.Pattern;

/** LANGUAGE.md, rule 11: no chain of calls, each method of it once, is more than eight methods long. */
public final class DepthTest {
    private static final Path SOURCE = Path.of("src/main/java/PuppetCourt.java");
    private static final int DEEPEST = 8;
    private static final Pattern CLASS = Pattern.compile("^(?: {4}private static|public) final class (\\w+) \\{$");
    private static final Pattern HEAD = Pattern.compile("^(?: {4}| {8})(?:[\\w\\[\\]]+ )*(\\w+)\\([^;=]*\\) \\{$");
    private static final Pattern CALL = Pattern.compile("(?<![\\w.])(?:([\\w.\\[\\]]+)\\.)?([a-z]\\w*)\\(");

    /** By class and name: what the method calls. A name without a class before it is of the same class. */
    private final Map<String, TreeSet<String>> calls = new TreeMap<>();
    private final Map<String, StringBuilder> bodies = new TreeMap<>();

    public static void main(String[] args) throws IOException {
        DepthTest test = new DepthTest();
        test.split(Files.readString(SOURCE).replaceAll("(?s)/\\*.*?\\*/", "").replaceAll("//[^\n]*", ""));
        test.bodies.forEach((method, body) -> test.calls.put(method, test.calledIn(method, body.toString())));
        Due.is("read() is known to call faultOf()", test.calls.get("PuppetCourt.read").contains("Reader.faultOf"), true);
        Due.is("unit() is known to call sum()", test.calls.get("Reader.unit").contains("Reader.sum"), true);
        for (String method : test.calls.keySet()) {
            List<String> chain = test.longest(new ArrayList<>(List.of(method)));
            if (method.startsWith("PuppetCourt.") && chain.size() > DEEPEST) {
                Due.fails("calls go " + chain.size() + " deep: " + chain);
            }
        }
        Due.end("DepthTest");
    }

    private void split(String code) {
        String inside = "";
        String method = null;
        for (String line : code.split("\n")) {
            Matcher type = CLASS.matcher(line);
            Matcher head = HEAD.matcher(line);
            if (type.matches()) {
                inside = type.group(1);
                method = null;
            } else if (head.matches()) {
                method = inside + "." + head.group(1);
                Due.is(method + " is one method", bodies.containsKey(method), false);
                bodies.put(method, new StringBuilder());
            } else if (method != null) {
                bodies.get(method).append(line).append('\n');
            }
        }
    }

    /** Where the text does not tell the class of an object, all methods of the name are taken. */
    private TreeSet<String> calledIn(String method, String body) {
        TreeSet<String> called = new TreeSet<>();
        Matcher call = CALL.matcher(body);
        while (call.find()) {
            String of = call.group(1) == null ? method.substring(0, method.indexOf('.')) : call.group(1);
            boolean isClass = Character.isUpperCase(of.charAt(0));
            for (String other : bodies.keySet()) {
                if (other.endsWith("." + call.group(2)) && (!isClass || other.startsWith(of + "."))) {
                    called.add(other);
                }
            }
        }
        return called;
    }

    private List<String> longest(List<String> chain) {
        List<String> longest = new ArrayList<>(chain);
        for (String next : calls.get(chain.get(chain.size() - 1))) {
            if (!chain.contains(next)) {
                chain.add(next);
                List<String> found = longest(chain);
                longest = found.size() > longest.size() ? found : longest;
                chain.remove(chain.size() - 1);
            }
        }
        return longest;
    }
}
