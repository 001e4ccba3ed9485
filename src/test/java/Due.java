/** What the tests share: answers that are due, and texts put on the tape. */
final class Due {
    private static int wrong = 0;
    private static String test = "";

    private Due() {
    }

    /** What is due from here on belongs to the test of this name. */
    static void begin(String name) {
        test = name.isEmpty() ? "" : name + ": ";
    }

    static void is(String call, long got, long want) {
        if (got != want) {
            wrong++;
            System.out.println(test + call + " answered " + got + ", due is " + want);
        }
    }

    static void is(String call, boolean got, boolean want) {
        is(call, got ? 1 : 0, want ? 1 : 0);
    }

    static void fails(String what) {
        wrong++;
        System.out.println(test + what);
    }

    static int wrong() {
        return wrong;
    }

    /** Puts a text behind what is on the tape; characters 0 to 255 are its bytes. */
    static void type(PuppetCourt court, String text) {
        int full = (text.length() + 19) / 20 * 20;
        for (int from = 0; from < full; from += 20) {
            court.feed(word(text, from), word(text, from + 4), word(text, from + 8), word(text, from + 12),
                word(text, from + 16));
        }
        court.back(full - text.length());
    }

    private static int word(String text, int from) {
        int word = 0;
        for (int i = from; i < from + 4; i++) {
            word = word << 8 | (i < text.length() ? text.charAt(i) & 255 : 32);
        }
        return word;
    }

    static int read(PuppetCourt court, String text) {
        type(court, text);
        return court.read();
    }

    static PuppetCourt court(String text) {
        PuppetCourt court = new PuppetCourt();
        is("read of " + text, read(court, text), 0);
        return court;
    }

    /** All that can be seen of a court, but for the tape and the latest fault. */
    static String state(PuppetCourt court) {
        StringBuilder seen = new StringBuilder();
        for (int what = 0; what <= 14; what++) {
            seen.append(what == 7 ? "" : what + ":" + court.count(what) + " ");
        }
        for (int what = 0; what <= 5; what++) {
            seen.append("court ").append(court.court(what)).append(' ');
        }
        for (int i = 0; i < 7; i++) {
            for (int what = 0; what <= 4; what++) {
                seen.append(court.puppet(i, what)).append('/').append(court.string(i, what)).append(' ');
            }
        }
        for (int i = 0; i < 12; i++) {
            for (int what = 0; what <= 2; what++) {
                seen.append(court.precedent(i, what)).append(' ');
            }
        }
        for (int m = 0; m <= 7; m++) {
            seen.append(court.jury(m, false)).append('/').append(court.jury(m, true)).append(' ');
        }
        return seen.append(court.worn()).append(' ').append(court.cloth(court.count(9), 5)).toString();
    }

    static void same(String what, String got, String want) {
        if (!got.equals(want)) {
            fails(what + ": now " + got + ", due is " + want);
        }
    }

    static void end(String name) {
        System.out.println(name + ": " + (wrong == 0 ? "all answers are as due" : wrong + " answers are not as due"));
        if (wrong != 0) {
            System.exit(1);
        }
    }
}
