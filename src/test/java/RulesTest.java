import java.io.IOException;
import java.lang.reflect.Member;
import java.lang.reflect.Modifier;
import java.nio.file.Files;
import java.nio.file.Path;
import java.util.ArrayList;
import java.util.Arrays;
import java.util.List;
import java.util.Set;
import java.util.TreeSet;
import java.util.regex.Matcher;
import java.util.regex.Pattern;

/** The rules of LANGUAGE.md that can be seen without reading: the face, words left out, sizes. */
public final class RulesTest {
    private static final String SOURCE = "src/main/java/PuppetCourt.java";
    private static final String FACE = "after(II) back(I) cloth(II) clashes() count(I) court(I) feed(IIIII) force(II) forget()"
        + " free(I) half(Z) hold(I) jury(IZ) look(II) may(I) nearest(I) open() paint(I) pass() place() precedent(II) pull(I)"
        + " puppet(II) reach(II) read() restore(I) shortest(II) storms(III) straight() string(II) strong(I) sure(III)"
        + " tell(III) undo() verdicts() worn()";

    public static void main(String[] args) throws IOException {
        face();
        String code = Files.readString(Path.of(SOURCE)).replaceAll("(?s)/\\*.*?\\*/", "").replaceAll("//[^\n]*", "");
        words(code);
        methods(code);
        fields();
        Due.end("RulesTest");
    }

    private static void face() {
        Class<?> c = PuppetCourt.class;
        Due.is("public and final", c.getModifiers() & (Modifier.PUBLIC | Modifier.FINAL), Modifier.PUBLIC | Modifier.FINAL);
        Set<String> open = new TreeSet<>();
        Arrays.stream(c.getDeclaredMethods()).filter(RulesTest::isSeen).forEach(m -> {
            StringBuilder shown = new StringBuilder(m.getName()).append('(');
            Arrays.stream(m.getParameterTypes()).forEach(t -> shown.append(t == boolean.class ? 'Z' : t == int.class ? 'I' : '?'));
            open.add(shown.append(')').toString());
        });
        Set<String> due = new TreeSet<>(Arrays.asList(FACE.split(" ")));
        if (!open.equals(due)) {
            Due.fails("the methods are " + open + ", due are " + due);
        }
        Due.is("fields seen", Arrays.stream(c.getDeclaredFields()).filter(RulesTest::isSeen).count(), 1);
        Due.is("constructors", c.getDeclaredConstructors().length, 1);
        Set<String> names = new TreeSet<>();
        due.forEach(d -> names.add(d.substring(0, d.indexOf('('))));
        for (Class<?> inside : c.getDeclaredClasses()) {
            Due.is(inside + " is static", Modifier.isStatic(inside.getModifiers()), true);
            Arrays.stream(inside.getDeclaredMethods()).filter(m -> names.contains(m.getName()))
                .forEach(m -> Due.fails("a name of the face: " + m));
        }
        if (c.getDeclaredClasses().length > 12) {
            Due.fails("more than twelve classes inside");
        }
    }

    private static boolean isSeen(Member member) {
        return !Modifier.isPrivate(member.getModifiers()) && !member.isSynthetic();
    }

    private static void words(String code) {
        String bare = code.replaceAll("\"[^\"\n]*\"", "\"\"");
        for (String word : List.of("throw", "throws", "try", "catch", "synchronized", "assert", "Object", "Exact", "hashCode",
            "System\\.(?!arraycopy)", "Math\\.(?!min|max|abs)", "->", "::", "\"\" \\+", "\\+ \"\"", "Thread", "protected",
            "import (?!java\\.util\\.Arrays;)", "native", "transient", "volatile")) {
            String whole = Character.isLetter(word.charAt(0)) ? "\\b" + word : word;
            Matcher m = Pattern.compile(whole + (word.matches("[a-zA-Z]+") ? "\\b" : "")).matcher(bare);
            if (m.find()) {
                Due.fails("in the code: " + word);
            }
        }
    }

    /** Methods as they are laid out here: a head that ends with a brace, and the brace alone that ends it. */
    private static void methods(String code) {
        List<String> lines = new ArrayList<>(Arrays.asList(code.split("\n")));
        Pattern head = Pattern.compile("^( {4}| {8})(?! )(?!private static final class|static final class)[^=]*\\((.*)\\) \\{$");
        for (int i = 0; i < lines.size(); i++) {
            Matcher m = head.matcher(lines.get(i));
            if (m.matches() && !lines.get(i).matches("\\s*(if|for|while|switch|\\}).*")) {
                int end = lines.subList(i, lines.size()).indexOf(m.group(1) + "}");
                if (end > 60) {
                    Due.fails("a long method: " + lines.get(i));
                }
                if (m.group(2).split(",").length > 7) {
                    Due.fails("many parameters: " + lines.get(i));
                }
            }
        }
    }

    private static void fields() {
        List<Class<?>> all = new ArrayList<>(Arrays.asList(PuppetCourt.class.getDeclaredClasses()));
        all.add(PuppetCourt.class);
        for (Class<?> c : all) {
            long own = Arrays.stream(c.getDeclaredFields()).filter(f -> !Modifier.isStatic(f.getModifiers())).count();
            if (own > 20) {
                Due.fails("many fields: " + c);
            }
            Arrays.stream(c.getDeclaredFields())
                .filter(f -> Modifier.isStatic(f.getModifiers()) && !Modifier.isFinal(f.getModifiers()))
                .forEach(f -> Due.fails("static and not final: " + f));
        }
    }
}
