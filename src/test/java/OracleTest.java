import java.util.ArrayList;
import java.util.List;
import java.util.Random;

/** Long runs of calls by fixed seeds, each answer held against the oracle's. */
public final class OracleTest {
    private static final String[] NAMES = {"feed", "back", "read", "place", "puppet", "string", "court", "may", "pull",
        "pass", "open", "undo", "after", "shortest", "force", "straight", "reach", "strong", "free", "worn", "verdicts",
        "half", "jury", "precedent", "nearest", "clashes", "paint", "storms", "tell", "forget", "cloth", "sure", "look",
        "hold", "restore", "count"};
    /** How often each is called, of some; a text comes by itself now and then. */
    private static final int[] OFTEN = {1, 1, 0, 2, 4, 4, 6, 4, 40, 4, 6, 8, 4, 5, 5, 2, 4, 4, 3, 3, 2, 2, 4, 4, 4, 2,
        3, 5, 8, 1, 4, 5, 4, 2, 2, 10};
    private static final String[] VARS = {"apart", "tangles", "pulls", "nods", "side", "hand", "seat", "which", "at"};

    private final Random random;
    private final PuppetCourt court = new PuppetCourt();
    private final Oracle oracle = new Oracle();
    private final List<String> calls = new ArrayList<>();
    private final int run;

    private OracleTest(int run) {
        this.run = run;
        random = new Random(run);
    }

    public static void main(String[] args) {
        int runs = args.length > 0 ? Integer.parseInt(args[0]) : 400;
        int from = args.length > 1 ? Integer.parseInt(args[1]) : 0;
        for (int run = from; run < from + runs && Due.wrong() < 20; run++) {
            new OracleTest(run).go();
        }
        Due.end("OracleTest");
    }

    private void go() {
        int weights = 0;
        for (int often : OFTEN) {
            weights += often;
        }
        boolean deep = run % 3 == 0;
        for (int i = 0; i < (deep ? 400 : 150) && Due.wrong() < 20; i++) {
            if (deep ? count(1) < 3 : i == 0 || random.nextInt(60) == 0) {
                text(TextMaker.text(random, VARS));
            }
            if (deep && count(14) == 1 && random.nextInt(3) == 0) {
                call("open", 0, 0, 0, null);
            }
            int pick = random.nextInt(weights);
            int which = 0;
            while (pick >= OFTEN[which]) {
                pick -= OFTEN[which];
                which++;
            }
            call(NAMES[which]);
        }
    }

    private void text(String text) {
        call("back", count(7), 0, 0, null);
        int full = (text.length() + 19) / 20 * 20;
        for (int at = 0; at < full; at += 20) {
            int[] words = new int[5];
            for (int k = 0; k < 20; k++) {
                int c = at + k < text.length() ? text.charAt(at + k) & 255 : 32;
                words[k / 4] = words[k / 4] << 8 | c;
            }
            call("feed", 0, 0, 0, words);
        }
        call("back", full - text.length(), 0, 0, null);
        calls.add("text " + text);
        call("read", 0, 0, 0, null);
        call("place", 0, 0, 0, null);
    }

    private int count(int what) {
        return (int) oracle.call("count", what, 0, 0, null);
    }

    private int small(int most) {
        int kind = random.nextInt(40);
        return kind == 0 ? random.nextInt() : kind == 1 ? -1 : kind == 2 ? most + 1 : random.nextInt(Math.max(1, most + 1));
    }

    private void call(String name) {
        int told = count(9);
        int puppet = small(count(0) - 1);
        int string = small(count(1) - 1);
        int[] words = {random.nextInt(), random.nextInt(), random.nextInt(), random.nextInt(), random.nextInt()};
        switch (name) {
            case "puppet":
                call(name, puppet, small(4), 0, null);
                break;
            case "may":
            case "pull":
                call(name, string, 0, 0, null);
                break;
            case "string":
                call(name, string, small(4), 0, null);
                break;
            case "after":
                call(name, string, small(2), 0, null);
                break;
            case "free":
            case "half":
                call(name, small(1), 0, 0, null);
                break;
            case "nearest":
            case "hold":
            case "restore":
                call(name, small(2), 0, 0, null);
                break;
            case "undo":
            case "forget":
                if (run % 2 == 0 || random.nextInt(6) == 0) {
                    call(name, 0, 0, 0, null);
                }
                break;
            case "shortest":
                call(name, 1 + small(1), small(1), 0, null);
                break;
            case "force":
                call(name, small(1), 1 + small(4), 0, null);
                break;
            case "reach":
                call(name, puppet, small(9), 0, null);
                break;
            case "strong":
                call(name, 1 + small(4), 0, 0, null);
                break;
            case "jury":
                call(name, small(count(2)), random.nextInt(2), 0, null);
                break;
            case "precedent":
                call(name, small(count(5)) - 1, small(2), 0, null);
                break;
            case "paint":
                call(name, small(3) - 1, 0, 0, null);
                break;
            case "storms":
                call(name, string, small(2), 1 + small(19), null);
                break;
            case "tell":
                call(name, puppet, 1 + small(4), small(9), null);
                break;
            case "cloth":
            case "look":
                call(name, Math.min(small(told), small(told)), small(5), 0, null);
                break;
            case "sure":
                call(name, small(told), 1 + small(4), small(4), null);
                break;
            case "count":
                call(name, small(14), 0, 0, null);
                break;
            case "back":
                call(name, small(40), 0, 0, null);
                break;
            default:
                call(name, small(6), 0, 0, words);
        }
    }

    private void call(String name, int a, int b, int c, int[] words) {
        String shown = name + "(" + a + ", " + b + ", " + c + ")";
        calls.add(shown);
        long want = oracle.call(name, a, b, c, words);
        long got = Face.call(court, name, a, b, c, words);
        if (got != want) {
            Due.is("run " + run + ": " + shown, got, want);
            System.out.println("  behind " + calls.subList(Math.max(0, calls.size() - 15), calls.size()));
        }
    }
}
