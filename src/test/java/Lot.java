/** LOT as the document tells it, by longs. */
final class Lot {
    private static final long WORD = 0xffffffffL;

    private Lot() {
    }

    static int of(int n, int seed, int which) {
        long h = seed & WORD;
        for (long it : new long[] {87, which & WORD}) {
            h = ((h ^ it) * 1103515245L + 12345L) & WORD;
            h ^= h >> 15;
        }
        return (int) ((h >> 1) % n);
    }
}
