import java.util.Random;

/** Any calls with any arguments in any state, also far beyond the 512th: none may throw. */
public final class AnyCallTest {
    private static final String[] NAMES = {"feed", "back", "read", "place", "puppet", "string", "court", "may", "pull",
        "pass", "open", "undo", "after", "shortest", "force", "straight", "reach", "strong", "free", "worn", "verdicts",
        "half", "jury", "precedent", "nearest", "clashes", "paint", "storms", "tell", "forget", "cloth", "sure", "look",
        "hold", "restore", "count"};
    private static final int[] EDGES = {Integer.MIN_VALUE, Integer.MIN_VALUE + 1, -1000, -3, -2, -1, 0, 1, 2, 3, 4, 5, 6, 7,
        8, 9, 10, 12, 13, 20, 21, 40, 41, 1999, 2000, 2001, Integer.MAX_VALUE - 1, Integer.MAX_VALUE};
    private static final String[] VARS = {"apart", "tangles", "pulls", "nods", "side", "hand", "seat", "which", "at"};

    public static void main(String[] args) {
        Random random = new Random(5);
        for (int run = 0; run < 60; run++) {
            PuppetCourt court = new PuppetCourt();
            for (int i = 0; i < 1500; i++) {
                if (random.nextInt(100) == 0) {
                    court.back(court.count(7));
                    Due.read(court, TextMaker.text(random, VARS));
                }
                any(court, random);
            }
        }
        Due.end("AnyCallTest");
    }

    private static int argument(Random random) {
        int kind = random.nextInt(10);
        return kind == 0 ? random.nextInt() : kind < 4 ? EDGES[random.nextInt(EDGES.length)] : random.nextInt(6);
    }

    private static void any(PuppetCourt court, Random random) {
        String name = NAMES[random.nextInt(NAMES.length)];
        int[] words = {random.nextInt(), random.nextInt(), random.nextInt(), argument(random), argument(random)};
        int a = argument(random);
        int b = argument(random);
        int c = argument(random);
        try {
            Face.call(court, name, a, b, c, words);
        } catch (RuntimeException e) {
            Due.fails(name + "(" + a + ", " + b + ", " + c + ") threw " + e);
        }
    }
}
