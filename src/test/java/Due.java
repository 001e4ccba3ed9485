/** What the tests share: answers that are due, and texts put on the tape. */
final class Due {
    private static int wrong = 0;

    private Due() {
    }

    static void is(String call, long got, long want) {
        if (got != want) {
            wrong++;
            System.out.println(call + " answered " + got + ", due is " + want);
        }
    }

    static void is(String call, boolean got, boolean want) {
        is(call, got ? 1 : 0, want ? 1 : 0);
    }

    static void fails(String what) {
        wrong++;
        System.out.println(what);
    }

    static int wrong() {
        return wrong;
    }

    /** Puts a text behind what is on the tape; characters 0 to 255 are its bytes. */
    static void type(PuppetCourt court, String text) {
        int full = (text.length() + 19) / 20 * 20;
        for (int from = 0; from < full; from += 20) {
            court.feed(word(text, from), word(text, from + 4), word(text, from + 8), word(text, from + 12),
                word(text, from + 16));
        }
        court.back(full - text.length());
    }

    private static int word(String text, int from) {
        int word = 0;
        for (int i = from; i < from + 4; i++) {
            word = word << 8 | (i < text.length() ? text.charAt(i) & 255 : 32);
        }
        return word;
    }

    static int read(PuppetCourt court, String text) {
        type(court, text);
        return court.read();
    }

    static PuppetCourt court(String text) {
        PuppetCourt court = new PuppetCourt();
        is("read of " + text, read(court, text), 0);
        return court;
    }

    static void end(String name) {
        System.out.println(name + ": " + (wrong == 0 ? "all answers are as due" : wrong + " answers are not as due"));
        if (wrong != 0) {
            System.exit(1);
        }
    }
}
