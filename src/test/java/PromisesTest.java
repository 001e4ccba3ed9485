/** Each promise by itself: ordinary calls, the edges that the document names, wrong ones. Answers worked out by hand. */
public final class PromisesTest {
    private static final int MAX = Integer.MAX_VALUE;
    private static final int MIN = Integer.MIN_VALUE;
    /** Two who walk towards one another and a judge who nods and raises a hand. */
    private static final String DUET = "puppet p 2 9; puppet d 5 5; puppet j 7 1;"
        + "string go p 0 1 0; string come d 1 - 1 0; string nod j 2 0 1; string lift j 2 0 2;";

    public static void main(String[] args) {
        newObject();
        puppetsAndStrings();
        laws();
        lawsOfWhat();
        pulls();
        passes();
        storms();
        undo();
        after();
        shortest();
        force();
        straightAndReach();
        strong();
        freeAndWorn();
        juries();
        precedents();
        paint();
        stormsBySeeds();
        cloth();
        slots();
        counts();
        Due.end("PromisesTest");
    }

    private static void newObject() {
        PuppetCourt x = new PuppetCourt();
        Due.is("NONE", PuppetCourt.NONE, -1);
        for (int what = -2; what < 18; what++) {
            Due.is("new count(" + what + ")", x.count(what), what < 0 || what > 14 ? -1 : what == 3 ? 1 : 0);
            Due.is("new court(" + what + ")", x.court(what), what < 0 || what > 5 ? -100 : 0);
            Due.is("new puppet(" + what + ")", x.puppet(what, 0), -1);
            Due.is("new string(" + what + ")", x.string(what, 0), -100);
            Due.is("new pull(" + what + ")", x.pull(what), -1);
        }
        Due.is("new look(0, 0)", x.look(0, 0), -2);
        Due.is("new look(1, 0)", x.look(1, 0), -1);
        Due.is("new straight()", x.straight(), 0);
    }

    private static void puppetsAndStrings() {
        PuppetCourt x = Due.court("puppet p 2 9; puppet d 7 5; string a p 0 - 2 3; string b p 2 9 0; string c d 1 1 2;");
        int[] p = {2, 0, 0, 9, 2};
        int[] a = {0, 0, -2, 3, 0};
        for (int what = 0; what < 5; what++) {
            Due.is("puppet(0, " + what + ")", x.puppet(0, what), p[what]);
            Due.is("string(0, " + what + ")", x.string(0, what), a[what]);
        }
        Due.is("puppet(1, 4)", x.puppet(1, 4), 1);
        Due.is("puppet(2, 0)", x.puppet(2, 0), -1);
        Due.is("puppet(-1, 0)", x.puppet(-1, 0), -1);
        Due.is("puppet(0, 5)", x.puppet(0, 5), -1);
        Due.is("puppet(0, -1)", x.puppet(0, -1), -1);
        Due.is("puppet(max, min)", x.puppet(MAX, MIN), -1);
        Due.is("string(3, 0)", x.string(3, 0), -100);
        Due.is("string(0, 5)", x.string(0, 5), -100);
        Due.is("string(0, -1)", x.string(0, -1), -100);
        Due.is("string(min, 0)", x.string(MIN, 0), -100);
        Due.is("may(1): X would be 11", x.may(1), 0);
        Due.is("may(2): not his", x.may(2), 0);
        Due.is("pull(0)", x.pull(0), 0);
        Due.is("X", x.puppet(0, 0), 0);
        Due.is("head", x.puppet(0, 1), 1);
        Due.is("hand", x.puppet(0, 2), 1);
        Due.is("string(0, 4)", x.string(0, 4), 1);
        Due.is("pull(2)", x.pull(2), 0);
        Due.is("head of 1", x.puppet(1, 1), 0);
        Due.is("hand of 1", x.puppet(1, 2), 1);
        Due.is("nods", x.court(4), 1);
        Due.is("pull(1)", x.pull(1), 0);
        Due.is("X then", x.puppet(0, 0), 9);
        Due.is("tangles", x.court(3), 1);
        Due.is("apart", x.court(2), -1);
        x.pass();
        Due.is("pull(0) again", x.pull(0), 0);
        Due.is("head down again", x.puppet(0, 1), 0);
        Due.is("hand down again", x.puppet(0, 2), 0);
    }

    /** What a law tells, by way of the votes of one child. */
    private static void value(String law, int want) {
        PuppetCourt x = Due.court("child 3; votes = " + law + ";");
        int tenth = x.jury(1, false) * 10 / x.jury(1, true);
        Due.is("law " + law, tenth, want);
    }

    private static void laws() {
        value("7", 7);
        value("11", 10);
        value("0 - 1", 0);
        value("9 - 3 - 2", 4);
        value("9 - (3 - 2)", 8);
        value("2 + 3 * 2", 8);
        value("(2 + 1) * 3", 9);
        value("9 / 2 / 2", 2);
        value("9 / 2 * 2", 8);
        value("8 - (0 - 7) / 2 - 9", 2);
        value("8 + (0 - 7) / 2", 5);
        value("8 + 7 / (0 - 2)", 5);
        value("1 / 0", 0);
        value("9 + 0 * (1 / 0)", 0);
        value("9 + 1 / (2 - 2)", 0);
        value("if 1 < 2 then 3 else 4", 3);
        value("if 2 < 2 then 3 else 4", 4);
        value("if 0 - 1 < 0 then 3 else 4", 3);
        value("if 2 < 1 then 1 else if 1 < 2 then 5 else 6", 5);
        value("if 2 < 1 then 1 else if 2 < 2 then 5 else 6", 6);
        value("if 1 < 2 then 3 else 1 / 0", 3);
        value("if 2 < 1 then 1 / 0 else 4", 4);
        value("if 1 / 0 < 1 then 3 else 4", 0);
        value("if 1 < 1 / 0 then 3 else 4", 0);
        value("if 1 < 2 then 3 else if 1 / 0 < 1 then 4 else 5", 3);
        value("if 9999 * 9999 * 9999 < 0 then 3 else 4", 9999 * 9999 * 9999 < 0 ? 3 : 4);
        value("if 9999 * 9999 * 25 < 0 then 3 else 4", 9999 * 9999 * 25 < 0 ? 3 : 4);
        // -2147483648 / -1 wraps
        String least = "(0 - 8192 * 8192 * 32)";
        value("if " + least + " < 0 then 3 else 4", 3);
        value("if " + least + " / (0 - 1) < 0 then 3 else 4", 3);
        value("if " + least + " - 1 < 0 then 3 else 4", 4);
        value("seat", 3);
        value("which + apart + tangles + pulls + nods + side + hand + at", 0);
        value("((((((6))))))", 6);
        PuppetCourt x = Due.court("child 3; votes = 1; votes = 2;");
        Due.is("the last law", x.jury(1, false), 1);
        Due.is("the last law, below", x.jury(1, true), 5);
    }

    private static void may(String order, int want) {
        PuppetCourt x = Due.court("puppet p 2 9; puppet d 7 5; puppet j 4 1; string a d 1 1 0; string b j 2 0 3;"
            + "string c j 2 1 0; order = " + order + ";");
        x.pass();
        x.pull(1);
        x.pass();
        Due.is("may(2) by " + order, x.may(2), want);
    }

    /** Three pulls in, side 1's turn, the judge at 4 with head and hand up, the defendant behind him. */
    private static void lawsOfWhat() {
        String free = "if pulls < 3 then 1 else ";
        may(free + "1", 1);
        may(free + "0", 0);
        may(free + "0 - 1", 0);
        may(free + "if apart < 5 then 0 else if apart < 6 then 1 else 0", 1);
        may(free + "if tangles < 1 then 0 else if tangles < 2 then 1 else 0", 1);
        may(free + "if pulls < 4 then 1 else 0", 1);
        may(free + "nods", 1);
        may(free + "side", 1);
        may(free + "hand", 1);
        may(free + "seat", 0);
        may(free + "if which < 2 then 0 else 3 - which", 1);
        may(free + "if at < 4 then 0 else 5 - at", 1);
        // of the verdict: neither side, seat, which, at
        PuppetCourt x = Due.court("puppet p 2 9; puppet d 7 5; puppet j 4 1; string a j 2 1 3; string b j 2 1 0;"
            + "verdict = side + seat + which + at;"
            + "votes = apart + tangles + pulls + nods + hand + side + at; child 1; child 2;");
        x.pass();
        Due.is("verdict of what is 0", x.pull(1), 0);
        Due.is("a pull of the first", x.pull(0), 0);
        // apart 5, tangles 1 (7 > 6), pulls 3, nods 1, hand 1
        Due.is("votes of all", x.jury(2, false), 1);
        Due.is("votes of all, below", x.jury(2, true), 1);
        x = Due.court("puppet p 2 9; puppet d 7 5; puppet j 4 1; string a j 2 1 3;"
            + "verdict = if apart*1000 + tangles*100 + pulls*10 + nods + hand < 5122 then 1 else 2;");
        Due.is("verdict of all: 5112", x.pull(0), 1);
        x = Due.court("child 9; child 8; votes = which * 5 + side + at;");
        x.pass();
        Due.is("votes of which: 0 and 5", x.jury(1, false), 1);
        Due.is("votes of which, below", x.jury(1, true), 2);
        x = Due.court("puppet p 4 0; string s p 2 1 0; verdict = if apart < 0 - 4 then 1 else 0;");
        Due.is("apart without a defendant", x.court(2), -4);
        Due.is("verdict by it", x.pull(0), 1);
    }

    private static void pulls() {
        PuppetCourt x = Due.court(DUET + "verdict = if apart < 2 then 1 + hand else 0;");
        Due.is("may(0)", x.may(0), 1);
        Due.is("may(1)", x.may(1), 0);
        Due.is("may(4)", x.may(4), -1);
        Due.is("may(-1)", x.may(-1), -1);
        Due.is("pull(1)", x.pull(1), -2);
        Due.is("pull(4)", x.pull(4), -1);
        Due.is("pull(-1)", x.pull(-1), -1);
        Due.is("nothing happened", x.count(4) + x.count(8) + x.court(0), 0);
        Due.is("pull(0)", x.pull(0), 0);
        Due.is("turn", x.court(0), 1);
        Due.is("may(0) of the other", x.may(0), 0);
        Due.is("pull(3)", x.pull(3), 0);
        Due.is("pull(0) again", x.pull(0), 2);
        Due.is("verdict", x.court(5), 2);
        Due.is("turn behind it", x.court(0), 1);
        Due.is("pulls", x.court(1), 3);
        Due.is("over: may(1)", x.may(1), 0);
        Due.is("over: may(9)", x.may(9), -1);
        Due.is("over: pull(1)", x.pull(1), -2);
        Due.is("over: pull(9)", x.pull(9), -1);
        Due.is("over: pass()", x.pass(), -2);
        Due.is("open()", x.open(), 2);
        Due.is("X as told", x.puppet(0, 0), 2);
        Due.is("hand down", x.puppet(2, 2), 0);
        Due.is("turn of 0", x.court(0), 0);
        Due.is("no pulls", x.court(1), 0);
        Due.is("no verdict", x.court(5), 0);
        Due.is("pulls of all", x.count(4), 3);
        Due.is("won by the defendant", x.count(12), 1);
        Due.is("pulled so far", x.string(0, 4), 2);
        x = Due.court("puppet p 9 0; string s p 2 1 0; string t p 2 - 9 0; string u p 2 - 1 0;");
        Due.is("to the right of 9", x.may(0), 0);
        Due.is("down to 0", x.pull(1), 0);
        Due.is("below 0", x.may(2), 0);
        x = Due.court("puppet p 5 0; string s p 2 0 0; verdict = 0 - 2;");
        Due.is("verdict below 0", x.pull(0), 0);
        x = Due.court("puppet p 5 0; string s p 2 0 0; verdict = 3;");
        Due.is("verdict 3", x.pull(0), 0);
        x = Due.court("puppet p 5 0; string s p 2 0 0; verdict = 5;");
        Due.is("verdict 5", x.pull(0), 2);
        x = Due.court("puppet p 5 0; string s p 2 0 0; verdict = 4 / (pulls - 1);");
        Due.is("verdict by 0", x.pull(0), 0);
        Due.is("verdict 4", x.pull(0), 1);
    }

    private static void passes() {
        PuppetCourt x = Due.court("puppet p 5 0; string s p 0 1 0; storm 100; verdict = if pulls < 3 then 0 else 2;");
        Due.is("pass()", x.pass(), 1);
        Due.is("turn", x.court(0), 1);
        Due.is("no storm", x.count(6), 0);
        Due.is("X", x.puppet(0, 0), 5);
        Due.is("pass() again", x.pass(), 2);
        Due.is("pass() to a verdict", x.pass(), 3);
        Due.is("verdict", x.court(5), 2);
        Due.is("precedents", x.precedent(-1, 0), 1);
        Due.is("pass() over", x.pass(), -2);
        Due.is("pulls of all", x.count(4), 3);
        Due.is("undo()", x.undo(), true);
        Due.is("verdict undone", x.court(5), 0);
        Due.is("precedents undone", x.precedent(-1, 0), 0);
        Due.is("open() in an open case", x.open(), 2);
        Due.is("pass() of the new case", x.pass(), 1);
        Due.is("pulls of all then", x.count(4), 3);
    }

    private static void storms() {
        for (int seed = 0; seed < 60; seed++) {
            int level = 10 * (seed % 11);
            PuppetCourt x = Due.court("puppet p 4 0; puppet d 5 0; string a p 2 0 1; string b p 0 - 3 0; string c d 1 3 0;"
                + "storm " + level + "; seed " + seed + ";");
            int[] px = {4, 5};
            int[] pulled = new int[3];
            int stormy = 0;
            for (int pull = 0; pull < 6; pull++) {
                int drawn = 0;
                if (Lot.of(100, seed, 4 * pull) < level) {
                    stormy++;
                    drawn = Lot.of(3, seed, 4 * pull + 1);
                }
                int to = drawn == 0 ? px[0] : drawn == 1 ? px[0] - 3 : px[1] + 3;
                if (to >= 0 && to <= 9) {
                    px[drawn == 2 ? 1 : 0] = to;
                    pulled[drawn]++;
                }
                if (pull == 3) {
                    x.open();
                    px[0] = drawn == 1 ? 1 : 4;
                    px[1] = drawn == 2 ? 8 : 5;
                    pulled[drawn] += to < 0 || to > 9 ? 1 : 0;
                }
                String run = "storm of seed " + seed + ", pull " + pull + ": ";
                Due.is(run + "pull(0)", x.pull(0), 0);
                Due.is(run + "X of 0", x.puppet(0, 0), px[0]);
                Due.is(run + "X of 1", x.puppet(1, 0), px[1]);
                Due.is(run + "storms", x.count(6), stormy);
                Due.is(run + "pulls of all", x.count(4), pull + 1);
                for (int i = 0; i < 3; i++) {
                    Due.is(run + "pulled " + i, x.string(i, 4), pulled[i]);
                }
            }
        }
    }

    private static void undo() {
        PuppetCourt x = Due.court(DUET + "verdict = if apart < 2 then 1 else 0;");
        Due.is("undo() of nothing", x.undo(), false);
        for (int i = 0; i < 45; i++) {
            x.pull(2);
        }
        Due.is("count(8)", x.count(8), 40);
        for (int i = 44; i >= 5; i--) {
            Due.is("undo()", x.undo(), true);
            Due.is("pulls behind it", x.court(1), i);
            Due.is("turn behind it", x.court(0), i % 2);
            Due.is("head behind it", x.puppet(2, 1), i % 2);
            Due.is("pulled behind it", x.string(2, 4), i);
        }
        Due.is("undo() beyond", x.undo(), false);
        x.open();
        x.pull(0);
        x.pull(1);
        Due.is("not allowed", x.pull(1), -2);
        Due.is("things to undo", x.count(8), 3);
        x.undo();
        x.undo();
        Due.is("cases", x.count(3), 2);
        x.undo();
        Due.is("cases, open undone", x.count(3), 1);
        Due.is("pulls, open undone", x.court(1), 5);
    }

    private static void after() {
        PuppetCourt x = Due.court(DUET + "string jump d 2 4 0; verdict = if apart < 3 then pulls else 0; storm 100;");
        Due.is("after(0, 0)", x.after(0, 0), 0);
        Due.is("after(0, 1)", x.after(0, 1), 2);
        Due.is("after(0, 2)", x.after(0, 2), 1);
        Due.is("after(4, 0)", x.after(4, 0), 1);
        Due.is("after(4, 1)", x.after(4, 1), 7);
        Due.is("after(4, 2)", x.after(4, 2), 0);
        Due.is("after(1, 0): not his", x.after(1, 0), -1000);
        Due.is("after(5, 0)", x.after(5, 0), -1000);
        Due.is("after(-1, 0)", x.after(-1, 0), -1000);
        Due.is("after(0, 3)", x.after(0, 3), -1000);
        Due.is("after(0, -1)", x.after(0, -1), -1000);
        Due.is("nothing happened", x.count(4) + x.count(6) + x.count(8), 0);
        x = Due.court("puppet p 2 9; string s p 2 0 0; verdict = 1;");
        x.pull(0);
        Due.is("over: after(0, 0)", x.after(0, 0), -1000);
    }

    private static void shortest() {
        PuppetCourt x = Due.court(DUET + "verdict = if apart < 1 then 1 + hand else 0;");
        // go, come, go; for 2 a lift in between: lift come go; but go lift go leaves 1 apart
        Due.is("shortest(1, 0)", x.shortest(1, 0), 3);
        Due.is("shortest(1, 1)", x.shortest(1, 1), 0);
        Due.is("shortest(2, 0)", x.shortest(2, 0), 4);
        Due.is("shortest(2, 1)", x.shortest(2, 1), 0);
        Due.is("shortest(0, 0)", x.shortest(0, 0), -1);
        Due.is("shortest(3, 0)", x.shortest(3, 0), -1);
        Due.is("shortest(1, 2)", x.shortest(1, 2), -1);
        Due.is("shortest(1, -1)", x.shortest(1, -1), -1);
        x = Due.court("puppet p 0 0; string a p 0 1 0; string b p 1 1 0; verdict = if 4 < 0 - apart then 1 else 0;");
        Due.is("five pulls", x.shortest(1, 0), 5);
        Due.is("five pulls, the first", x.shortest(1, 1), 0);
        Due.is("none for 2", x.shortest(2, 0), -2);
        Due.is("none for 2, the first", x.shortest(2, 1), -2);
        x = Due.court("puppet p 0 0; string a p 0 1 0; string b p 1 1 0; verdict = if 5 < 0 - apart then 1 else 0;");
        Due.is("six pulls", x.shortest(1, 0), -2);
        // a verdict on the way bars the way
        x = Due.court("puppet p 0 0; string a p 2 1 0; verdict = if 0 - apart < 1 then 0 else 0 - apart;");
        Due.is("1 at once", x.shortest(1, 0), 1);
        Due.is("2 lies behind 1", x.shortest(2, 0), -2);
        x = Due.court("puppet p 0 0; string a p 2 1 0; string b p 2 2 0; verdict = 0 - apart;");
        Due.is("2 by the other", x.shortest(2, 1), 1);
        x.pull(0);
        Due.is("over", x.shortest(1, 0), -2);
        Due.is("over, no such", x.shortest(0, 0), -1);
        // the first row by numbers: first c then a, not a then c, as a is not in order at first
        x = Due.court("puppet p 0 0; string a p 2 1 0; string b p 2 1 0; string c p 2 2 0;"
            + "order = pulls + which; verdict = if 3 + apart < 1 then 1 else 0;");
        Due.is("two pulls", x.shortest(1, 0), 2);
        Due.is("two pulls, the first", x.shortest(1, 1), 1);
    }

    private static void force() {
        PuppetCourt x = Due.court("puppet p 0 0; string a p 2 1 0; string b p 2 2 0; verdict = if 3 + apart < 1 then 1 else 0;");
        Due.is("force(0, 1)", x.force(0, 1), 0);
        Due.is("force(0, 2)", x.force(0, 2), 1);
        Due.is("force(0, 3)", x.force(0, 3), 1);
        Due.is("force(1, 5)", x.force(1, 5), 0);
        Due.is("force(0, 0)", x.force(0, 0), -1);
        Due.is("force(0, 6)", x.force(0, 6), -1);
        Due.is("force(-1, 1)", x.force(-1, 1), -1);
        Due.is("force(2, 1)", x.force(2, 1), -1);
        // who takes the last of four wins: takes 1 or 2
        String nim = "puppet p 0 0; string a p 2 1 0; string b p 2 2 0;"
            + "verdict = if 4 + apart < 1 then 2 + pulls - (pulls + 1) / 2 * 2 else 0;";
        x = Due.court(nim);
        Due.is("four: 0 forces", x.force(0, 5), 1);
        Due.is("four: 0 forces in 3", x.force(0, 3), 1);
        Due.is("four: 0 in 2", x.force(0, 2), 0);
        Due.is("four: 1", x.force(1, 5), 0);
        Due.is("four: strong", x.strong(5), 0);
        Due.is("four: strong in 2", x.strong(2), -2);
        x.pull(1);
        Due.is("two: 1 forces", x.force(1, 1), 1);
        Due.is("two: 1 by", x.strong(1), 1);
        Due.is("two: 0", x.force(0, 5), 0);
        x.pull(1);
        Due.is("over", x.force(1, 1), 0);
        Due.is("over, no such", x.force(1, 9), -1);
        Due.is("over: strong", x.strong(1), -2);
        Due.is("over: strong, no such", x.strong(0), -1);
        // who has none passes, and that counts: side 1 has no strings
        x = Due.court("puppet p 0 0; string a p 0 1 0; verdict = if 2 + apart < 1 then 1 else 0;");
        Due.is("passing: in 2", x.force(0, 2), 0);
        Due.is("passing: in 3", x.force(0, 3), 1);
        Due.is("passing does not take him there", x.shortest(1, 0), -2);
        x = Due.court("puppet p 0 0; string a p 0 1 0; verdict = if pulls < 2 then 0 else 2;");
        Due.is("a verdict by passing", x.force(1, 2), 1);
        Due.is("a verdict by passing, in 1", x.force(1, 1), 0);
        x = Due.court("verdict = pulls;");
        Due.is("no strings at all", x.force(0, 1), 1);
        // behind a and b, in either order, side 1 has won; behind a a and b b it has not
        x = Due.court("puppet p 0 0; string a p 2 1 0; string b p 2 2 0; string c p 2 0 0;"
            + "order = if pulls < 2 then 2 - which else which - 1;"
            + "verdict = if pulls < 3 then 0 else if apart < 0 - 3 then 1 else if apart < 0 - 2 then 2 else 1;");
        Due.is("one pose in two ways", x.force(1, 3), 1);
        Due.is("one pose in two ways, the other side", x.force(0, 3), 0);
    }

    private static void straightAndReach() {
        PuppetCourt x = Due.court("puppet p 5 0; puppet d 3 0; string a p 0 - 1 0; string b d 1 1 0; string c p 1 3 0;");
        Due.is("straight()", x.straight(), 2);
        Due.is("reach(0, 5)", x.reach(0, 5), 0);
        Due.is("reach(0, 4)", x.reach(0, 4), 1);
        Due.is("reach(0, 7)", x.reach(0, 7), 2);
        Due.is("reach(0, 2)", x.reach(0, 2), 5);
        Due.is("reach(0, 1)", x.reach(0, 1), -2);
        Due.is("reach(1, 5)", x.reach(1, 5), 4);
        Due.is("reach(2, 5)", x.reach(2, 5), -1);
        Due.is("reach(-1, 5)", x.reach(-1, 5), -1);
        Due.is("reach(0, 10)", x.reach(0, 10), -1);
        Due.is("reach(0, -1)", x.reach(0, -1), -1);
        x = Due.court("puppet p 5 0; puppet d 3 0; string a p 2 - 1 0; string b p 2 - 2 0; verdict = if apart < 0 then 0 else 1;");
        Due.is("straight with a verdict", x.straight(), -2);
        Due.is("reach with a verdict", x.reach(0, 3), -2);
        Due.is("reach without", x.reach(0, 4), 1);
        x.pull(1);
        Due.is("over: verdict", x.court(5), 1);
        Due.is("over: no tangles", x.court(3), 0);
        Due.is("over: straight()", x.straight(), -2);
        Due.is("over: reach(0, 3)", x.reach(0, 3), -2);
        Due.is("over: reach(0, 11)", x.reach(0, 11), -1);
        x = Due.court("puppet p 5 0; puppet d 5 0;");
        Due.is("alike is no tangle", x.straight(), 0);
    }

    private static void strong() {
        PuppetCourt x = Due.court("puppet p 0 0; string a p 2 1 0; string b p 2 2 0; string c p 2 3 0;"
            + "verdict = if 2 + apart < 1 then 1 else 0;");
        Due.is("strong(1)", x.strong(1), 1);
        Due.is("strong(2)", x.strong(2), 0);
        Due.is("strong(0)", x.strong(0), -1);
        Due.is("strong(6)", x.strong(6), -1);
        Due.is("strong(min)", x.strong(MIN), -1);
        x.pull(0);
        Due.is("strong(5) of side 1", x.strong(5), -2);
    }

    private static void freeAndWorn() {
        PuppetCourt x = Due.court(DUET + "string far p 0 8 0; order = if side < 1 then 1 else 2 - which;");
        Due.is("free(0)", x.free(0), 3);
        Due.is("free(1)", x.free(1), 1);
        Due.is("free(2)", x.free(2), -1);
        Due.is("free(-1)", x.free(-1), -1);
        Due.is("worn() of none", x.worn(), -2);
        x.pass();
        Due.is("worn() of a pass", x.worn(), -2);
        x.pass();
        x.pull(3);
        Due.is("worn()", x.worn(), 3);
        x.pass();
        x.pull(0);
        Due.is("worn() of alike ones", x.worn(), 0);
        x.pass();
        x.pull(3);
        Due.is("worn() then", x.worn(), 3);
        x.open();
        Due.is("worn() in a new case", x.worn(), 3);
        x = Due.court("puppet p 0 0; string s p 2 1 0; verdict = 1;");
        x.pull(0);
        Due.is("over: free(1)", x.free(1), 0);
    }

    private static void juries() {
        PuppetCourt x = Due.court("child 5; child 5; child 2; votes = seat;");
        // none: .5 * .5 * .8; one: .5 * .8 + .25 * .2; two: .25 * .8 + .5 * .2; all: .05
        int[] above = {1, 9, 3, 1};
        int[] below = {5, 20, 10, 20};
        for (int m = 0; m < 4; m++) {
            Due.is("jury(" + m + ")", x.jury(m, false), above[m]);
            Due.is("jury(" + m + ") below", x.jury(m, true), below[m]);
        }
        Due.is("jury(4)", x.jury(4, false), -1);
        Due.is("jury(4) below", x.jury(4, true), -1);
        Due.is("jury(-1)", x.jury(-1, false), -1);
        Due.is("verdicts()", x.verdicts(), 1);
        Due.is("half", x.half(false), 7);
        Due.is("half below", x.half(true), 20);
        x = Due.court("child 1; child 1;");
        Due.is("half of two", x.half(false), 1);
        Due.is("half of two, below", x.half(true), 4);
        x = Due.court("child 0; votes = 5;");
        Due.is("alike ones: the least", x.verdicts(), 0);
        x = Due.court("child 1;child 1;child 1;child 1;child 1;child 1;child 1; votes = 3;");
        Due.is("seven: 7 of 7", x.jury(7, false), 2187);
        Due.is("seven: 7 of 7, below", x.jury(7, true), 10000000);
        x = Due.court("child 1; votes = 99;");
        Due.is("held to 10", x.jury(1, false), 1);
        Due.is("held to 10, none", x.jury(0, false), 0);
        Due.is("held to 10, none, below", x.jury(0, true), 1);
        Due.is("held to 10, most", x.verdicts(), 1);
        x = Due.court("");
        Due.is("no children", x.jury(0, false) + x.jury(0, true), 2);
        Due.is("no children: half", x.half(false), 0);
        Due.is("no children: half below", x.half(true), 1);
    }

    private static void precedents() {
        PuppetCourt x = Due.court("puppet p 5 0; puppet d 5 0; string a d 2 1 1; string b d 2 2 0; string c d 2 - 1 0; string n d 2 0 0;"
            + "verdict = if pulls < 2 then 0 else 1 + nods;");
        Due.is("nearest(0) of none", x.nearest(0), -2);
        Due.is("nearest(3) of none", x.nearest(3), -1);
        Due.is("precedent(0, 0) of none", x.precedent(0, 0), -1000);
        x.pull(0);
        x.pull(0);
        x.open();
        x.pull(0);
        x.pull(2);
        x.open();
        x.pull(3);
        x.pull(1);
        x.open();
        x.pull(2);
        x.pull(2);
        int[][] kept = {{2, 0, 1}, {0, 0, 2}, {2, 0, 1}, {-2, 1, 1}};
        Due.is("precedent(NONE)", x.precedent(-1, 0), 4);
        Due.is("precedent(NONE, 9)", x.precedent(-1, 9), 4);
        for (int i = 0; i < 4; i++) {
            for (int what = 0; what < 3; what++) {
                Due.is("precedent(" + i + ", " + what + ")", x.precedent(i, what), kept[i][what]);
            }
        }
        Due.is("precedent(4, 0)", x.precedent(4, 0), -1000);
        Due.is("precedent(-2, 0)", x.precedent(-2, 0), -1000);
        Due.is("precedent(0, 3)", x.precedent(0, 3), -1000);
        Due.is("precedent(0, -1)", x.precedent(0, -1), -1000);
        Due.is("won by the plaintiff", x.count(11), 3);
        Due.is("won by the defendant", x.count(12), 1);
        Due.is("nearest(0)", x.nearest(0), 3);
        Due.is("nearest(1)", x.nearest(1), 0);
        x.open();
        Due.is("nearest(0) then", x.nearest(0), 1);
        Due.is("nearest(2) then", x.nearest(2), 2);
        x.pull(0);
        // now 1 apart: 2, 0 and 2 are all 1 away; the latest of them
        Due.is("nearest(0) of alike ones", x.nearest(0), 2);
        Due.is("nearest(1) of alike ones", x.nearest(1), 1);
        Due.is("nearest(2) of alike ones", x.nearest(2), 1);
        Due.is("nearest(-1)", x.nearest(-1), -1);
        Due.is("nearest(3)", x.nearest(3), -1);
        Due.is("clashes()", x.clashes(), 0);
        x.pass();
        x.open();
        x.pull(3);
        x.pull(3);
        // 0 apart with 2 and with 1
        Due.is("clashes() then", x.clashes(), 1);
        x = Due.court("puppet p 0 0; string a p 2 1 1; string b p 2 1 0; string c p 2 2 0; verdict = 1 + nods;");
        for (int i = 0; i < 14; i++) {
            Due.is("a short case", x.pull(i == 0 ? 2 : i % 2), i == 0 ? 1 : 2 - i % 2);
            x.open();
        }
        Due.is("12 at most", x.precedent(-1, 0), 12);
        Due.is("the oldest went", x.precedent(0, 0), -1);
        Due.is("the oldest kept", x.precedent(0, 2), 2);
        Due.is("count(5)", x.count(5), 12);
        Due.is("6 times 6 clash", x.clashes(), 36);
        Due.is("cases won", x.count(11) * 100 + x.count(12), 806);
        x = Due.court("puppet p 4 0; puppet d 4 0; string l d 2 - 1 0; string r d 2 1 0; verdict = 1;");
        for (int i = 0; i < 13; i++) {
            x.pull(i % 3 == 0 ? 0 : 1);
            x.open();
        }
        for (int i = 0; i < 12; i++) {
            Due.is("apart of kept " + i, x.precedent(i, 0), i % 3 == 2 ? -1 : 1);
            Due.is("tangles of kept " + i, x.precedent(i, 1), i % 3 == 2 ? 1 : 0);
        }
    }

    private static void paint() {
        PuppetCourt x = Due.court("puppet a 0 1; puppet b 0 9; puppet c 0 5; puppet d 0 0;");
        Due.is("paint(NONE)", x.paint(-1), 0);
        Due.is("paint(0)", x.paint(0), 1);
        Due.is("paint(1)", x.paint(1), 2);
        Due.is("paint(2)", x.paint(2), 0);
        Due.is("paint(3)", x.paint(3), -1);
        Due.is("paint(-2)", x.paint(-2), -1);
        x = Due.court("puppet a 0 3; puppet b 0 3; puppet c 0 3; puppet d 0 3;");
        Due.is("alike: sum", x.paint(-1), 10);
        Due.is("alike: 0", x.paint(0), 0);
        Due.is("alike: 1", x.paint(1), 1);
        Due.is("alike: 2", x.paint(2), 2);
        x = Due.court("puppet a 0 6; puppet b 0 7; puppet c 0 1;");
        // 6 and 7 for 9 and 5 are 5 and 3 off
        Due.is("crossed: sum", x.paint(-1), 3);
        Due.is("crossed: 0", x.paint(0), 1);
        Due.is("crossed: 1", x.paint(1), 0);
        x = Due.court("puppet a 0 6; puppet b 0 7;");
        Due.is("two only", x.paint(0), -2);
        Due.is("two only, sum", x.paint(-1), -2);
    }

    private static void stormsBySeeds() {
        for (int seed = 0; seed < 40; seed++) {
            String text = "puppet p 4 0; puppet d 5 0; string a p 0 0 1; string b p 0 - 5 0; string c d 1 4 0;"
                + "storm 60; verdict = if nods < 1 then apart + 1 else 1; seed ";
            int[] ended = new int[3];
            PuppetCourt x = Due.court(text + seed + ";");
            for (int i = 0; i < 20; i++) {
                int which = Lot.of(100, seed + i, 0) < 60 ? Lot.of(3, seed + i, 1) : 0;
                // a nods; b cannot go, so it stays 1 apart, and 2 it is; c makes it 5, and 6 leaves 0
                int due = which == 0 ? 1 : which == 1 ? 2 : 0;
                ended[due]++;
                Due.is("pull(0) by seed " + (seed + i), Due.court(text + (seed + i) + ";").pull(0), due);
            }
            for (int v = 0; v < 3; v++) {
                Due.is("storms(0, " + v + ", 20) from " + seed, x.storms(0, v, 20), ended[v]);
            }
            Due.is("nothing happened", x.count(4) + x.count(6), 0);
        }
        PuppetCourt x = Due.court("puppet p 4 0; string a p 0 0 1; string b p 1 0 0; verdict = 1; seed 9999; storm 50;");
        Due.is("storms(0, 1, 1)", x.storms(0, 1, 1), 1);
        Due.is("storms(1, 1, 1)", x.storms(1, 1, 1), -2);
        Due.is("storms(1, 3, 1)", x.storms(1, 3, 1), -1);
        Due.is("storms(1, -1, 1)", x.storms(1, -1, 1), -1);
        Due.is("storms(1, 1, 0)", x.storms(1, 1, 0), -1);
        Due.is("storms(1, 1, 21)", x.storms(1, 1, 21), -1);
        Due.is("storms(2, 1, 1)", x.storms(2, 1, 1), -1);
        Due.is("storms(-1, 1, 1)", x.storms(-1, 1, 1), -1);
        Due.is("storms(0, 0, 20)", x.storms(0, 0, 20), 0);
        x.pull(0);
        Due.is("over: storms(0, 1, 1)", x.storms(0, 1, 1), -2);
    }

    private static void cloth() {
        PuppetCourt x = Due.court("puppet p 1 0; puppet d 8 0; string a p 0 1 0; string b p 1 - 1 0; string c d 2 1 0;"
            + "order = 0;");
        Due.is("cloth(0, 0)", x.cloth(0, 0), 1);
        Due.is("cloth(0, 1)", x.cloth(0, 1), 3);
        // of nine rows of two b b and c c leave the stage
        Due.is("cloth(0, 2)", x.cloth(0, 2), 7);
        Due.is("cloth(1, 2)", x.cloth(1, 2), -1);
        Due.is("cloth(-1, 2)", x.cloth(-1, 2), -1);
        Due.is("cloth(0, 6)", x.cloth(0, 6), -1);
        Due.is("cloth(0, -1)", x.cloth(0, -1), -1);
        // rows of one: p at 2, 0, 1; d at 8, 8, 9: by p one is left, by d two
        Due.is("look(0, 1)", x.look(0, 1), 0);
        Due.is("look(0, 0)", x.look(0, 0), 0);
        Due.is("look(1, 1)", x.look(1, 1), -1);
        Due.is("look(0, 6)", x.look(0, 6), -1);
        Due.is("sure(0, 1, 0)", x.sure(0, 1, 0), -2);
        Due.is("tell(0, 2, 1)", x.tell(0, 2, 1), 0);
        Due.is("of later pulls", x.cloth(1, 1), 3);
        // p at 1 behind two: a b, b a
        Due.is("cloth(1, 2)", x.cloth(1, 2), 2);
        Due.is("cloth(0, 2) then", x.cloth(0, 2), 7);
        Due.is("sure(1, 2, 0)", x.sure(1, 2, 0), -2);
        Due.is("tell(0, 1, 2)", x.tell(0, 1, 2), 1);
        Due.is("cloth(2, 2)", x.cloth(2, 2), 1);
        Due.is("sure(2, 2, 0)", x.sure(2, 2, 0), 0);
        Due.is("sure(2, 2, 1)", x.sure(2, 2, 1), 1);
        Due.is("sure(2, 2, 2)", x.sure(2, 2, 2), -1);
        Due.is("sure(2, 2, -1)", x.sure(2, 2, -1), -1);
        Due.is("sure(3, 2, 0)", x.sure(3, 2, 0), -1);
        Due.is("tell(1, 1, 0)", x.tell(1, 1, 0), 2);
        Due.is("no rows", x.cloth(3, 2), 0);
        Due.is("no rows: sure", x.sure(3, 2, 0), -2);
        Due.is("no rows: look", x.look(3, 2), -2);
        Due.is("tell(2, 1, 0)", x.tell(2, 1, 0), -1);
        Due.is("tell(0, 0, 0)", x.tell(0, 0, 0), -1);
        Due.is("tell(0, 6, 0)", x.tell(0, 6, 0), -1);
        Due.is("tell(0, 1, 10)", x.tell(0, 1, 10), -1);
        Due.is("tell(0, 1, -1)", x.tell(0, 1, -1), -1);
        for (int i = 3; i < 20; i++) {
            Due.is("tell", x.tell(0, 5, 9), i);
        }
        Due.is("tell beyond 20", x.tell(0, 5, 9), -1);
        Due.is("count(9)", x.count(9), 20);
        Due.is("undo() is not for it", x.undo(), false);
        Due.is("forget()", x.forget(), 20);
        Due.is("forget() again", x.forget(), 0);
        Due.is("tell() then", x.tell(0, 1, 2), 0);
        x = Due.court("puppet p 4 0; puppet d 4 0; string a p 0 0 0; string b d 1 1 0; string c d 2 - 1 0; string e d 2 0 1;");
        // by p all are left; by d: 4 5 3 4
        Due.is("look at the second", x.look(0, 1), 1);
        x = Due.court("puppet p 9 0; string a p 2 - 9 0; string b p 2 9 0; verdict = 1;");
        x.pull(0);
        Due.is("from now on, the case over", x.cloth(0, 1), 1);
        Due.is("which is", x.sure(0, 1, 0), 1);
    }

    private static void slots() {
        PuppetCourt x = Due.court(DUET + "verdict = if apart < 2 then 1 else 0;");
        Due.is("hold(3)", x.hold(3), false);
        Due.is("hold(-1)", x.hold(-1), false);
        Due.is("restore(0)", x.restore(0), false);
        Due.is("restore(-1)", x.restore(-1), false);
        Due.is("restore(3)", x.restore(3), false);
        x.pull(0);
        x.pull(2);
        Due.is("hold(2)", x.hold(2), true);
        Due.is("things to undo stay", x.count(8), 2);
        Due.is("slots", x.count(10), 1);
        x.tell(0, 1, 1);
        Due.type(x, "seed");
        x.pull(0);
        Due.is("verdict", x.court(5), 1);
        x.open();
        Due.is("restore(1)", x.restore(1), false);
        Due.is("things to undo", x.count(8), 4);
        Due.is("restore(2)", x.restore(2), true);
        Due.is("cases", x.count(3), 1);
        Due.is("pulls", x.court(1), 2);
        Due.is("head", x.puppet(2, 1), 1);
        Due.is("precedents", x.count(5), 0);
        Due.is("won", x.count(11), 0);
        Due.is("pulled", x.string(0, 4), 1);
        Due.is("told stays", x.count(9), 1);
        Due.is("the tape stays", x.count(7), 4);
        Due.is("nothing can be undone", x.undo(), false);
        Due.is("it stays there", x.count(10), 1);
        x.pull(0);
        Due.is("restore(2) again", x.restore(2), true);
        Due.is("pulls again", x.court(1), 2);
        x.hold(0);
        x.hold(0);
        Due.is("slots then", x.count(10), 2);
    }

    private static void counts() {
        PuppetCourt x = Due.court(DUET + "child 1; child 2; verdict = if apart < 2 then 1 else 0;");
        x.pull(0);
        x.pass();
        x.hold(1);
        x.tell(0, 1, 1);
        Due.type(x, "abc");
        int[] want = {3, 4, 2, 1, 2, 0, 0, 3, 2, 1, 1, 0, 0, 13, 0};
        for (int what = 0; what <= 14; what++) {
            Due.is("count(" + what + ")", x.count(what), want[what]);
        }
        x.pull(0);
        int[] then = {3, 4, 2, 1, 3, 1, 0, 3, 3, 1, 1, 1, 0, 0, 1};
        for (int what = 0; what <= 14; what++) {
            Due.is("count(" + what + ") then", x.count(what), then[what]);
        }
        Due.is("count(-1)", x.count(-1), -1);
        Due.is("count(15)", x.count(15), -1);
        Due.is("count(max)", x.count(MAX), -1);
    }
}
