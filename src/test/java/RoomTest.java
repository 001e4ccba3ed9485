import java.io.IOException;
import java.lang.reflect.Array;
import java.lang.reflect.Field;
import java.lang.reflect.Modifier;
import java.nio.file.Files;
import java.nio.file.Path;
import java.util.ArrayDeque;
import java.util.Collections;
import java.util.Deque;
import java.util.IdentityHashMap;
import java.util.Set;

/** The one room of all calls: what a court keeps is small, and nothing is made that is not kept. */
public final class RoomTest {
    private static final Path SOURCE = Path.of("src/main/java/PuppetCourt.java");
    private static final int MOST_OBJECTS = 400;
    private static final int MOST_CELLS = 15000;
    private static final String TEXT = "puppet a 4 1; puppet b 5 5; puppet c 6 9; string m a 2 1 1; string n b 2 -1 2;"
        + " string o c 2 0 3; child 5; verdict = if pulls < 3 then 0 else 1 + tangles; storm 30;";

    public static void main(String[] args) throws IOException, IllegalAccessException {
        PuppetCourt court = Due.court(TEXT);
        for (int i = 0; i < 200; i++) {
            court.pull(i % 3);
            court.hold(i % 3);
            if (court.count(14) == 1) {
                court.open();
            }
        }
        Due.is("things that can be undone", court.count(8), 40);
        Due.is("slots that hold something", court.count(10), 3);
        Due.is("precedents", court.count(5), 12);
        measure(court);
        onlyThePastMakesObjects();
        Due.end("RoomTest");
    }

    private static void measure(PuppetCourt court) throws IllegalAccessException {
        Set<Object> kept = Collections.newSetFromMap(new IdentityHashMap<>());
        Deque<Object> open = new ArrayDeque<>();
        open.push(court);
        kept.add(court);
        int cells = 0;
        while (!open.isEmpty()) {
            Object one = open.pop();
            boolean isArray = one.getClass().isArray();
            int length = isArray ? Array.getLength(one) : 0;
            cells += length;
            for (int i = 0; i < length && !one.getClass().getComponentType().isPrimitive(); i++) {
                meet(Array.get(one, i), kept, open);
            }
            Field[] fields = isArray ? new Field[0] : one.getClass().getDeclaredFields();
            for (Field field : fields) {
                if (!Modifier.isStatic(field.getModifiers())) {
                    cells++;
                    field.setAccessible(true);
                    meet(field.getType().isPrimitive() ? null : field.get(one), kept, open);
                }
            }
        }
        if (kept.size() > MOST_OBJECTS || cells > MOST_CELLS) {
            Due.fails("a court keeps " + kept.size() + " objects with " + cells + " fields and elements");
        }
    }

    private static void meet(Object other, Set<Object> kept, Deque<Object> open) {
        if (other != null && kept.add(other)) {
            open.push(other);
        }
    }

    /** Beside the first values of fields, 'new' stands in Past alone. */
    private static void onlyThePastMakesObjects() throws IOException {
        String inside = "";
        for (String line : Files.readString(SOURCE).split("\n")) {
            if (line.startsWith("    private static final class ")) {
                inside = line.trim().split(" ")[4];
            }
            boolean isField = line.matches(" {4,8}(private )?(final )?[\\w\\[\\]]+ \\w+ = new .*;");
            if (line.matches(".*\\bnew \\w+[\\[(].*") && !isField && !inside.equals("Past")) {
                Due.fails("makes an object: " + line.trim());
            }
        }
    }
}
