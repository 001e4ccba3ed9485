/** Boundary cases of promises 6 to 13: what stands on the stage, pulls, storms, passes, new cases, undoing. */
final class EdgesOfPulls {
    private static final int MAX = Integer.MAX_VALUE;
    private static final int MIN = Integer.MIN_VALUE;
    /** One who walks either way, for both. */
    private static final String WALKER = "puppet p 5 3; string r p 2 1 0; string l p 2 - 1 0; string n p 2 0 3;";

    private EdgesOfPulls() {
    }

    // ---- promise 6

    @Says("Of a PUPPET: what 0 X, 1: 1 its head is up, else 0, 2: 1 its hand is up, else 0, 3 PAINT, 4 how many STRINGS it has.")
    static void p06_puppet_everyWhat() {
        PuppetCourt x = Due.court("puppet p 5 3; puppet d 9 8; string a p 2 1 1; string b d 2 0 2; string c p 0 0 0;");
        x.pull(0);
        x.pull(1);
        int[][] want = {{6, 1, 0, 3, 2}, {9, 0, 1, 8, 1}};
        for (int puppet = 0; puppet < 2; puppet++) {
            for (int what = 0; what < 5; what++) {
                Due.is("puppet(" + puppet + ", " + what + ")", x.puppet(puppet, what), want[puppet][what]);
            }
        }
    }

    @Says("Of a PUPPET: what 0 X, 1: 1 its head is up, else 0, 2: 1 its hand is up, else 0, 3 PAINT, 4 how many STRINGS it has.")
    static void p06_puppet_withoutStringsAndWithSeven() {
        PuppetCourt x = Due.court("puppet p 5 3; puppet d 9 8; string a d 0 0 0; string b d 0 0 0; string c d 0 0 0;"
            + "string e d 0 0 0; string f d 0 0 0; string g d 0 0 0; string h d 0 0 0;");
        Due.is("none", x.puppet(0, 4), 0);
        Due.is("seven", x.puppet(1, 4), 7);
    }

    @Says("NONE for others.")
    static void p06_puppet_noSuchPuppet() {
        PuppetCourt x = Due.court("puppet p 5 3; puppet d 9 8;");
        for (int puppet : new int[] {2, 3, 5, 7, -1, MAX, MIN}) {
            Due.is("puppet(" + puppet + ", 0)", x.puppet(puppet, 0), -1);
            Due.is("puppet(" + puppet + ", 3)", x.puppet(puppet, 3), -1);
        }
        x = Due.court("puppet a 1 1;puppet b 1 1;puppet c 1 1;puppet d 1 1;puppet e 7 1;");
        Due.is("the fifth", x.puppet(4, 0), 7);
        Due.is("a sixth", x.puppet(5, 0), -1);
    }

    @Says("NONE for others.")
    static void p06_puppet_noSuchWhat() {
        PuppetCourt x = Due.court("puppet p 5 3;");
        for (int what : new int[] {5, -1, MAX, MIN}) {
            Due.is("puppet(0, " + what + ")", x.puppet(0, what), -1);
        }
    }

    // ---- promise 7

    @Says("Of a STRING: what 0 its PUPPET, 1 its SIDE, 2 how far it moves that, 3 what it TURNS,")
    static void p07_string_everyWhat() {
        PuppetCourt x = Due.court("puppet p 5 3; puppet d 9 8; string a d 1 - 4 2; string b p 2 9 1;");
        int[][] want = {{1, 1, -4, 2, 0}, {0, 2, 9, 1, 0}};
        for (int string = 0; string < 2; string++) {
            for (int what = 0; what < 5; what++) {
                Due.is("string(" + string + ", " + what + ")", x.string(string, what), want[string][what]);
            }
        }
    }

    @Says("4 how often it was pulled so far (in a STORM, too).")
    static void p07_string_pulledInAllCases() {
        PuppetCourt x = Due.court(WALKER);
        x.pull(0);
        x.pull(1);
        x.open();
        x.pull(0);
        x.pass();
        Due.is("string(0, 4)", x.string(0, 4), 2);
        Due.is("string(1, 4)", x.string(1, 4), 1);
        Due.is("string(2, 4)", x.string(2, 4), 0);
    }

    @Says("4 how often it was pulled so far (in a STORM, too).")
    static void p07_string_pulledInAStorm() {
        PuppetCourt x = Due.court(WALKER + "storm 100; seed 3;");
        int[] due = new int[3];
        for (int i = 0; i < 4; i++) {
            x.pull(2);
            due[Lot.of(3, 3, 4 * i + 1)]++;
        }
        for (int i = 0; i < 3; i++) {
            Due.is("string(" + i + ", 4)", x.string(i, 4), due[i]);
        }
    }

    @Says("-100 for others.")
    static void p07_string_noSuchString() {
        PuppetCourt x = Due.court(WALKER);
        for (int string : new int[] {3, 6, 7, -1, MAX, MIN}) {
            Due.is("string(" + string + ", 0)", x.string(string, 0), -100);
            Due.is("string(" + string + ", 4)", x.string(string, 4), -100);
        }
    }

    @Says("-100 for others.")
    static void p07_string_noSuchWhat() {
        PuppetCourt x = Due.court(WALKER);
        for (int what : new int[] {5, -1, MAX, MIN}) {
            Due.is("string(0, " + what + ")", x.string(0, what), -100);
        }
    }

    // ---- promise 8

    @Says("Of the case: what 0 whose turn it is, 1 pulls, 2 apart, 3 TANGLES, 4 nods, 5 the VERDICT (0: none).")
    static void p08_court_everyWhat() {
        PuppetCourt x = Due.court("puppet p 6 3; puppet d 2 3; string a p 0 1 1; verdict = 2 * nods;");
        int[] ahead = {0, 0, -4, 1, 0, 0};
        int[] behind = {1, 1, -5, 1, 1, 2};
        for (int what = 0; what < 6; what++) {
            Due.is("court(" + what + ")", x.court(what), ahead[what]);
        }
        x.pull(0);
        for (int what = 0; what < 6; what++) {
            Due.is("court(" + what + ") then", x.court(what), behind[what]);
        }
    }

    @Says("-100 for others.")
    static void p08_court_noSuchWhat() {
        PuppetCourt x = Due.court(WALKER);
        for (int what : new int[] {6, -1, MAX, MIN}) {
            Due.is("court(" + what + ")", x.court(what), -100);
        }
    }

    // ---- promise 9

    @Says({"A PULL of a STRING by whose turn it is: it must be his SIDE's or both's,",
        "Whether a STRING may be pulled now by whose turn it is: 1;"})
    static void p09_may_ofWhichSide() {
        PuppetCourt x = Due.court("puppet p 5 0; string a p 0 0 0; string b p 1 0 0; string c p 2 0 0;");
        int[][] want = {{1, 0, 1}, {0, 1, 1}};
        for (int side = 0; side < 2; side++) {
            for (int i = 0; i < 3; i++) {
                Due.is("may(" + i + ") of side " + side, x.may(i), want[side][i]);
            }
            x.pass();
        }
    }

    @Says("its PUPPET must stay within X 0 .. 9,")
    static void p09_may_within0() {
        PuppetCourt x = Due.court("puppet p 1 0; string a p 2 - 1 0; string b p 2 - 2 0;");
        Due.is("to 0", x.may(0), 1);
        Due.is("to -1", x.may(1), 0);
        Due.is("pull to -1", x.pull(1), -2);
        Due.is("pull to 0", x.pull(0), 0);
        Due.is("X", x.puppet(0, 0), 0);
        Due.is("from 0 to -1", x.may(0), 0);
    }

    @Says("its PUPPET must stay within X 0 .. 9,")
    static void p09_may_within9() {
        PuppetCourt x = Due.court("puppet p 8 0; puppet d 0 0; string a p 2 1 0; string b p 2 2 0; string c d 2 9 0;");
        Due.is("to 9", x.may(0), 1);
        Due.is("to 10", x.may(1), 0);
        Due.is("pull to 10", x.pull(1), -2);
        Due.is("pull to 9", x.pull(0), 0);
        Due.is("X", x.puppet(0, 0), 9);
        Due.is("from 9 to 10", x.may(0), 0);
        Due.is("from 0 to 9", x.pull(2), 0);
        Due.is("X of the other", x.puppet(1, 0), 9);
        Due.is("X stays", x.puppet(0, 0), 9);
    }

    @Says("ORDER must tell more than 0 (as things are ahead of it);")
    static void p09_may_orderOf0() {
        String[] orders = {"0", "1", "2", "0 - 1", "8192*8192*32", "8192*8192*32 - 1"};
        int[] want = {0, 1, 1, 0, 0, 1};
        for (int i = 0; i < orders.length; i++) {
            PuppetCourt x = Due.court(WALKER + "order = " + orders[i] + ";");
            Due.is("may(0) by " + orders[i], x.may(0), want[i]);
            Due.is("pull(0) by " + orders[i], x.pull(0), want[i] == 1 ? 0 : -2);
        }
    }

    @Says("ORDER must tell more than 0 (as things are ahead of it);")
    static void p09_may_asThingsAreAhead() {
        // no pulls, at 5, head down: as it is ahead of the pull
        PuppetCourt x = Due.court(WALKER + "order = 1 - pulls - nods - (at - 5) * (at - 5) - side;");
        Due.is("may(0)", x.may(0), 1);
        Due.is("pull(2)", x.pull(2), 0);
        Due.is("may(0) behind it", x.may(0), 0);
    }

    @Says("0 not (the case is over, too);")
    static void p09_may_theCaseIsOver() {
        PuppetCourt x = Due.court(WALKER + "verdict = 1;");
        Due.is("may(0)", x.may(0), 1);
        x.pull(0);
        for (int i = 0; i < 3; i++) {
            Due.is("may(" + i + ") over", x.may(i), 0);
        }
        x.open();
        Due.is("may(0) of a new case", x.may(0), 1);
    }

    @Says("NONE: no such one.")
    static void p09_may_noSuchString() {
        PuppetCourt x = Due.court(WALKER + "verdict = 1;");
        for (int i : new int[] {3, 7, -1, MAX, MIN}) {
            Due.is("may(" + i + ")", x.may(i), -1);
        }
        x.pull(0);
        Due.is("may(3) over", x.may(3), -1);
    }

    // ---- promise 10

    @Says({"the PUPPET moves, its head or hand turns (up, or down again); then it is the other one's turn.",
        "A PULL: the VERDICT (0 .. 2);"})
    static void p10_pull_upAndDownAgain() {
        PuppetCourt x = Due.court("puppet p 5 0; puppet d 5 0; string a p 2 1 1; string b p 2 - 1 2; string c p 2 0 3;");
        int[][] due = {{0, 6, 1, 0}, {0, 7, 0, 0}, {1, 6, 0, 1}, {1, 5, 0, 0}, {2, 5, 1, 1}, {0, 6, 0, 1}, {2, 6, 1, 0}};
        for (int i = 0; i < due.length; i++) {
            Due.is("turn ahead of " + i, x.court(0), i % 2);
            Due.is("pull " + i, x.pull(due[i][0]), 0);
            for (int what = 0; what < 3; what++) {
                Due.is("puppet(0, " + what + ") behind " + i, x.puppet(0, what), due[i][what + 1]);
                Due.is("puppet(1, " + what + ") behind " + i, x.puppet(1, what), what == 0 ? 5 : 0);
            }
        }
    }

    @Says("the PUPPET moves, its head or hand turns (up, or down again); then it is the other one's turn.")
    static void p10_pull_noneOfTheOthersMoves() {
        for (int turns = 0; turns <= 3; turns++) {
            for (int pulled = 0; pulled < 5; pulled++) {
                for (int move : new int[] {-9, 0, 9}) {
                    StringBuilder text = new StringBuilder();
                    for (int i = 0; i < 5; i++) {
                        text.append("puppet ").append((char) ('a' + i)).append(move < 0 ? " 9 0;" : " 0 0;");
                    }
                    PuppetCourt x = Due.court(text + "string s " + (char) ('a' + pulled) + " 2 " + (move < 0 ? "-9 " : move + " ")
                        + turns + ";");
                    x.pull(0);
                    for (int i = 0; i < 5; i++) {
                        boolean its = i == pulled;
                        Due.is("X of " + i, x.puppet(i, 0), (move < 0 ? 9 : 0) + (its ? move : 0));
                        Due.is("head of " + i, x.puppet(i, 1), its ? turns % 2 : 0);
                        Due.is("hand of " + i, x.puppet(i, 2), its ? turns / 2 : 0);
                    }
                    Due.is("nods", x.court(4), turns % 2);
                }
            }
        }
    }

    @Says("-2, and nothing happens: it may not be pulled;")
    static void p10_pull_mayNotBePulled() {
        PuppetCourt x = Due.court("puppet p 9 0; string a p 1 0 3; string b p 2 1 3; string c p 2 0 3; order = 2 - which; storm 100;");
        String before = Due.state(x);
        Due.is("not his", x.pull(0), -2);
        Due.is("beyond X", x.pull(1), -2);
        Due.is("not in order", x.pull(2), -2);
        Due.same("behind them", Due.state(x), before);
        Due.is("nothing to undo", x.undo(), false);
    }

    @Says("-2, and nothing happens: it may not be pulled;")
    static void p10_pull_theCaseIsOver() {
        PuppetCourt x = Due.court(WALKER + "verdict = 2;");
        Due.is("pull(0)", x.pull(0), 2);
        String before = Due.state(x);
        Due.is("pull(0) over", x.pull(0), -2);
        Due.same("behind it", Due.state(x), before);
    }

    @Says("NONE: no such one.")
    static void p10_pull_noSuchString() {
        PuppetCourt x = Due.court(WALKER + "verdict = 1;");
        String before = Due.state(x);
        for (int i : new int[] {3, 7, -1, MAX, MIN}) {
            Due.is("pull(" + i + ")", x.pull(i), -1);
        }
        Due.same("behind them", Due.state(x), before);
        x.pull(0);
        Due.is("pull(3) over", x.pull(3), -1);
    }

    @Says("Behind it the VERDICT is the rest by 3 of what the LAW tells (below 0: 0): 0 none, 1 for the plaintiff, 2 for the defendant.")
    static void p10_pull_theRestBy3() {
        String[] laws = {"0", "1", "2", "3", "4", "5", "6", "9998", "9999", "0 - 1", "0 - 2", "0 - 3", "0 - 5",
            "8192*8192*32", "8192*8192*32 - 1"};
        int[] want = {0, 1, 2, 0, 1, 2, 0, 2, 0, 0, 0, 0, 0, 0, 1};
        for (int i = 0; i < laws.length; i++) {
            PuppetCourt x = Due.court(WALKER + "verdict = " + laws[i] + ";");
            Due.is("pull(0) by " + laws[i], x.pull(0), want[i]);
            Due.is("court(5) by " + laws[i], x.court(5), want[i]);
            Due.is("over by " + laws[i], x.count(14), want[i] == 0 ? 0 : 1);
            Due.is("won by the plaintiff by " + laws[i], x.count(11), want[i] == 1 ? 1 : 0);
            Due.is("won by the defendant by " + laws[i], x.count(12), want[i] == 2 ? 1 : 0);
        }
    }

    @Says("Behind it the VERDICT is the rest by 3 of what the LAW tells (below 0: 0): 0 none, 1 for the plaintiff, 2 for the defendant.")
    static void p10_pull_theVerdictBehindNotAhead() {
        PuppetCourt x = Due.court(WALKER + "verdict = if apart < 0 - 5 then 1 else 0;");
        Due.is("to 6", x.pull(0), 1);
        x = Due.court(WALKER + "verdict = if apart < 0 - 4 then 1 else 0;");
        Due.is("from 5 to 4", x.pull(1), 0);
        x = Due.court(WALKER + "verdict = pulls;");
        Due.is("pulls with this one", x.pull(0), 1);
    }

    @Says("With a VERDICT the case is over: a PRECEDENT is kept (apart, TANGLES as they are, the VERDICT);")
    static void p10_pull_withAVerdictTheCaseIsOver() {
        PuppetCourt x = Due.court("puppet p 5 0; puppet d 6 0; string a p 2 2 0; verdict = 2 * tangles;");
        Due.is("pull(0)", x.pull(0), 2);
        Due.is("over", x.count(14), 1);
        Due.is("turn", x.court(0), 1);
        Due.is("how many", x.precedent(-1, 0), 1);
        Due.is("apart", x.precedent(0, 0), -1);
        Due.is("TANGLES", x.precedent(0, 1), 1);
        Due.is("VERDICT", x.precedent(0, 2), 2);
    }

    @Says("With a VERDICT the case is over: a PRECEDENT is kept (apart, TANGLES as they are, the VERDICT);")
    static void p10_pull_withoutAVerdictNoneIsKept() {
        PuppetCourt x = Due.court(WALKER);
        x.pull(0);
        x.open();
        Due.is("how many", x.precedent(-1, 0), 0);
        Due.is("cases", x.count(3), 2);
        Due.is("won", x.count(11) + x.count(12), 0);
    }

    // ---- promise 10: storms

    @Says("LOT n of a SEED and a which: h is the SEED; for each of 87, which: h becomes (h and it, each bit of which is in just one)")
    static void p10_pull_lotsByHand() {
        StringBuilder seven = new StringBuilder("puppet p 5 0;");
        for (char c = 's'; c <= 'y'; c++) {
            seven.append("string ").append(c).append(" p 2 0 0;");
        }
        for (int[] lot : LOTS) {
            for (int pull = 0; pull < 2; pull++) {
                int level = lot[1 + 2 * pull];
                for (int more = 0; more < 2; more++) {
                    PuppetCourt x = Due.court(seven + "storm " + (level + more) + "; seed " + lot[0] + ";");
                    if (pull == 1) {
                        x.pass();
                    }
                    x.pull(0);
                    Due.is("storms of " + (level + more) + " by seed " + lot[0], x.count(6), more);
                    Due.is("string of " + (level + more) + " by seed " + lot[0], x.worn(), more * lot[2 + 2 * pull]);
                }
            }
        }
    }

    /**
     * SEED, LOT 100 of 0 and LOT 7 of 1 (for the first pull), LOT 100 of 4 and LOT 7 of 5 (for the second),
     * worked out with unbounded numbers.
     */
    private static final int[][] LOTS = {
        {0, 0, 4, 59, 6},
        {1, 87, 4, 28, 5},
        {7, 47, 2, 22, 1},
        {87, 71, 6, 56, 4},
        {500, 31, 4, 38, 2},
        {4096, 31, 6, 58, 2},
        {9998, 85, 0, 92, 6},
        {9999, 8, 3, 53, 0}};

    @Says("times 1103515245 and 12345 more, then h and h moved 15 bits down (zeros come in), likewise;")
    static void p10_pull_stormsOfManySeeds() {
        for (int seed = 0; seed < 10000; seed += 97) {
            int lot = Lot.of(100, seed, 0);
            PuppetCourt x = Due.court(WALKER + "storm " + (lot + 1) + "; seed " + seed + ";");
            x.pull(0);
            Due.is("a storm by seed " + seed, x.count(6), 1);
            Due.is("its string by seed " + seed, x.worn(), Lot.of(3, seed, 1));
        }
    }

    @Says("the rest of h, moved 1 bit down likewise, by n (32 bits that wrap).")
    static void p10_pull_theStringDrawnOfOneToSeven() {
        for (int strings = 1; strings <= 7; strings++) {
            StringBuilder text = new StringBuilder("puppet p 5 0;");
            for (int i = 0; i < strings; i++) {
                text.append("string ").append((char) ('s' + i)).append(" p 2 0 0;");
            }
            PuppetCourt x = Due.court(text + "storm 100; seed 41;");
            int[] due = new int[strings];
            for (int i = 0; i < 40; i++) {
                x.pull(0);
                due[Lot.of(strings, 41, 4 * i + 1)]++;
            }
            for (int i = 0; i < strings; i++) {
                Due.is("string " + i + " of " + strings, x.string(i, 4), due[i]);
            }
        }
    }

    @Says("In a STORM (LOT 100 of the SEED and 4 * the pulls of all cases ahead is less than STORM)")
    static void p10_pull_aLotOfJustTheStorm() {
        for (int seed = 0; seed < 300; seed += 7) {
            int lot = Lot.of(100, seed, 0);
            PuppetCourt x = Due.court(WALKER + "storm " + lot + "; seed " + seed + ";");
            x.pull(0);
            Due.is("LOT is STORM, seed " + seed, x.count(6), 0);
            Due.is("the string pulled", x.string(0, 4), 1);
            x = Due.court(WALKER + "storm " + (lot + 1) + "; seed " + seed + ";");
            x.pull(0);
            Due.is("LOT is one less, seed " + seed, x.count(6), 1);
        }
    }

    @Says("In a STORM (LOT 100 of the SEED and 4 * the pulls of all cases ahead is less than STORM)")
    static void p10_pull_stormsByThePullsOfAllCases() {
        PuppetCourt x = Due.court("puppet p 5 0; string s p 2 0 0; string t p 2 0 0; string u p 2 0 0; storm 50; seed 12;");
        int storms = 0;
        int[] pulled = new int[3];
        for (int pulls = 0; pulls < 60; pulls++) {
            if (pulls % 7 == 6) {
                x.open();
            }
            if (pulls % 5 == 4) {
                x.pass();
            } else {
                boolean stormy = Lot.of(100, 12, 4 * pulls) < 50;
                storms += stormy ? 1 : 0;
                pulled[stormy ? Lot.of(3, 12, 4 * pulls + 1) : 0]++;
                x.pull(0);
            }
            Due.is("storms behind " + pulls, x.count(6), storms);
        }
        for (int i = 0; i < 3; i++) {
            Due.is("pulled " + i, x.string(i, 4), pulled[i]);
        }
    }

    @Says("the STRING with the number LOT (how many there are) of 1 more is pulled instead, whosever, in ORDER or not,")
    static void p10_pull_inAStormWhosever() {
        boolean[] seen = new boolean[3];
        for (int seed = 0; seed < 30; seed++) {
            // only the first is his and in order
            PuppetCourt x = Due.court("puppet p 5 0; string a p 0 1 0; string b p 1 2 0; string c p 0 3 0; order = 1 - which;"
                + "storm 100; seed " + seed + ";");
            int drawn = Lot.of(3, seed, 1);
            seen[drawn] = true;
            Due.is("pull(0)", x.pull(0), 0);
            Due.is("X by seed " + seed, x.puppet(0, 0), 6 + drawn);
            Due.is("pulled", x.string(drawn, 4), 1);
            Due.is("pulled most", x.worn(), drawn);
            Due.is("turn", x.court(0), 1);
        }
        Due.is("all were drawn", seen[0] && seen[1] && seen[2], true);
    }

    @Says("the STRING with the number LOT (how many there are) of 1 more is pulled instead, whosever, in ORDER or not,")
    static void p10_pull_inAStormItMustBeAllowedItself() {
        PuppetCourt x = Due.court("puppet p 5 0; string a p 0 1 0; string b p 1 2 0; storm 100;");
        Due.is("not his", x.pull(1), -2);
        Due.is("storms", x.count(6), 0);
    }

    /** The least seed by which the second of two strings is drawn at first. */
    private static int seedOfTheSecond() {
        int seed = 0;
        while (Lot.of(2, seed, 1) != 1) {
            seed++;
        }
        return seed;
    }

    @Says("if its PUPPET stays within X; else none is, and the pull is gone.")
    static void p10_pull_inAStormThePullIsGone() {
        for (int move : new int[] {4, 5}) {
            PuppetCourt x = Due.court("puppet p 5 0; string a p 0 1 1; string b p 1 " + move + " 3; storm 100; seed "
                + seedOfTheSecond() + ";");
            Due.is("pull(0)", x.pull(0), 0);
            boolean gone = move == 5;
            Due.is("X by " + move, x.puppet(0, 0), gone ? 5 : 9);
            Due.is("head by " + move, x.puppet(0, 1), gone ? 0 : 1);
            Due.is("pulled by " + move, x.string(1, 4), gone ? 0 : 1);
            Due.is("the first was not pulled", x.string(0, 4), 0);
            Due.is("worn by " + move, x.worn(), gone ? -2 : 1);
            Due.is("pulls", x.court(1), 1);
            Due.is("pulls of all", x.count(4), 1);
            Due.is("turn", x.court(0), 1);
            Due.is("storms", x.count(6), 1);
            Due.is("undo()", x.undo(), true);
            Due.is("storms undone", x.count(6), 0);
        }
    }

    @Says("if its PUPPET stays within X; else none is, and the pull is gone.")
    static void p10_pull_inAStormBelow0() {
        for (int move : new int[] {5, 6}) {
            PuppetCourt x = Due.court("puppet p 5 0; string a p 0 1 1; string b p 1 - " + move + " 3; storm 100; seed "
                + seedOfTheSecond() + ";");
            x.pull(0);
            Due.is("X by -" + move, x.puppet(0, 0), move == 5 ? 0 : 5);
        }
    }

    @Says("if its PUPPET stays within X; else none is, and the pull is gone.")
    static void p10_pull_goneAndTheVerdictBehindIt() {
        PuppetCourt x = Due.court("puppet p 5 0; string a p 0 1 1; string b p 1 9 3; verdict = 2 * pulls; storm 100; seed "
            + seedOfTheSecond() + ";");
        Due.is("pull(0)", x.pull(0), 2);
        Due.is("apart of the precedent", x.precedent(0, 0), -5);
    }

    // ---- promise 11

    @Says({"By hand: a PULL; a turn is PASSED (a pull, too, no STRING, no STORM);", "PASSED: how many pulls there were;"})
    static void p11_pass_isAPullWithoutStringAndStorm() {
        PuppetCourt x = Due.court(WALKER + "storm 100;");
        Due.is("pass()", x.pass(), 1);
        Due.is("pass() again", x.pass(), 2);
        Due.is("storms", x.count(6), 0);
        Due.is("pulls of all", x.count(4), 2);
        Due.is("X", x.puppet(0, 0), 5);
        Due.is("worn()", x.worn(), -2);
        Due.is("turn", x.court(0), 0);
        x.open();
        Due.is("pass() of a new case", x.pass(), 1);
        Due.is("pulls of all then", x.count(4), 3);
    }

    @Says({"By hand: a PULL; a turn is PASSED (a pull, too, no STRING, no STORM);", "PASSED: how many pulls there were;"})
    static void p11_pass_theVerdictBehindIt() {
        PuppetCourt x = Due.court(WALKER + "verdict = pulls / 2;");
        Due.is("pass()", x.pass(), 1);
        Due.is("no verdict", x.court(5), 0);
        Due.is("pass() again", x.pass(), 2);
        Due.is("verdict", x.court(5), 1);
        Due.is("over", x.count(14), 1);
        Due.is("precedents", x.precedent(-1, 0), 1);
        Due.is("won", x.count(11), 1);
    }

    @Says("-2, and nothing happens: the case is over.")
    static void p11_pass_theCaseIsOver() {
        PuppetCourt x = Due.court(WALKER + "verdict = 1;");
        x.pull(0);
        String before = Due.state(x);
        Due.is("pass()", x.pass(), -2);
        Due.same("behind it", Due.state(x), before);
    }

    // ---- promise 12

    @Says({"a new case is OPENED: PUPPETS as told, heads and hands down, no pulls, SIDE 0's turn.",
        "A new case is OPENED: how many cases were (the first one, too)."})
    static void p12_open_behindAVerdict() {
        PuppetCourt x = Due.court("puppet p 5 0; puppet d 3 0; string a p 2 1 3; string b d 2 1 3; verdict = pulls / 3;");
        x.pull(0);
        x.pull(1);
        x.pull(0);
        Due.is("over", x.count(14), 1);
        Due.is("open()", x.open(), 2);
        int[] stand = {5, 3};
        for (int i = 0; i < 2; i++) {
            Due.is("X", x.puppet(i, 0), stand[i]);
            Due.is("head", x.puppet(i, 1), 0);
            Due.is("hand", x.puppet(i, 2), 0);
        }
        int[] court = {0, 0, -2, 1, 0, 0};
        for (int what = 0; what < 6; what++) {
            Due.is("court(" + what + ")", x.court(what), court[what]);
        }
        Due.is("open now", x.count(14), 0);
        Due.is("precedents stay", x.precedent(-1, 0), 1);
        Due.is("pulled stays", x.string(0, 4), 2);
        Due.is("pulls of all stay", x.count(4), 3);
        Due.is("won stays", x.count(11), 1);
    }

    @Says("A new case is OPENED: how many cases were (the first one, too).")
    static void p12_open_inAnOpenCase() {
        PuppetCourt x = new PuppetCourt();
        Due.is("open() of a new object", x.open(), 2);
        x = Due.court(WALKER);
        x.pull(0);
        Due.is("open()", x.open(), 2);
        Due.is("turn", x.court(0), 0);
        Due.is("open() at once", x.open(), 3);
        Due.is("count(3)", x.count(3), 3);
        Due.is("won", x.count(11) + x.count(12) + x.count(5), 0);
    }

    // ---- promise 13

    /** A court in which so many things were done: pulls in storms, passes, verdicts, new cases. */
    private static PuppetCourt behind(int things) {
        PuppetCourt x = Due.court("puppet p 5 0; puppet d 4 0; string a p 2 1 3; string b d 2 - 1 1; verdict = pulls / 3;"
            + "storm 40; seed 9; child 2; votes = 3 + pulls;");
        for (int i = 0; i < things; i++) {
            if (i % 4 == 3) {
                x.open();
            } else if (i % 4 == 1) {
                x.pass();
            } else {
                x.pull(i % 3 / 2);
            }
        }
        return x;
    }

    @Says("The last thing done (pull, pass, open) is undone: true;")
    static void p13_undo_everyThing() {
        for (int left = 0; left < 9; left++) {
            PuppetCourt x = behind(9);
            Due.is("count(8)", x.count(8), 9);
            for (int i = 9; i > left; i--) {
                Due.is("undo()", x.undo(), true);
            }
            Due.same("undone down to " + left, Due.state(x), Due.state(behind(left)));
            Due.is("the verdict of the next pull", left % 4 == 2 ? x.pull(0) : 1, 1);
        }
    }

    @Says("The last thing done (pull, pass, open) is undone: true;")
    static void p13_undo_theOldestPrecedentComesBack() {
        PuppetCourt x = Due.court("puppet p 5 0; puppet d 6 0; string a p 2 1 0; string b p 2 2 1; verdict = 1 + nods;");
        for (int i = 0; i < 12; i++) {
            x.pull(i == 0 ? 1 : 0);
            x.open();
        }
        x.pull(0);
        Due.is("the oldest went", x.precedent(0, 0), 0);
        Due.is("its TANGLES", x.precedent(0, 1), 0);
        Due.is("its VERDICT", x.precedent(0, 2), 1);
        x.undo();
        Due.is("how many", x.precedent(-1, 0), 12);
        Due.is("the oldest is back", x.precedent(0, 0), -1);
        Due.is("its TANGLES are", x.precedent(0, 1), 1);
        Due.is("its VERDICT is", x.precedent(0, 2), 2);
        Due.is("the case is open", x.count(14), 0);
        Due.is("won", x.count(11), 11);
    }

    @Says("The last thing done (pull, pass, open) is undone: true;")
    static void p13_undo_notOfOtherThings() {
        PuppetCourt x = Due.court(WALKER);
        x.pull(0);
        x.tell(0, 1, 4);
        x.hold(0);
        Due.type(x, "abc");
        x.pull(7);
        x.after(0, 0);
        x.storms(0, 0, 5);
        Due.is("count(8)", x.count(8), 1);
        Due.is("undo()", x.undo(), true);
        Due.is("TOLD stays", x.count(9), 1);
        Due.is("the tape stays", x.count(7), 3);
        Due.is("SLOTS stay", x.count(10), 1);
        Due.is("undo() again", x.undo(), false);
    }

    @Says("false: there is none")
    static void p13_undo_thereIsNone() {
        Due.is("of a new object", new PuppetCourt().undo(), false);
        PuppetCourt x = Due.court(WALKER);
        Due.is("behind a text", x.undo(), false);
        x.pull(0);
        x.undo();
        String before = Due.state(x);
        Due.is("undo() again", x.undo(), false);
        Due.same("nothing happened", Due.state(x), before);
    }

    @Says("(the last 40 can be).")
    static void p13_undo_fortyOne() {
        PuppetCourt x = Due.court("puppet p 5 0; string n p 2 0 1;");
        for (int i = 0; i < 40; i++) {
            x.pull(0);
        }
        Due.is("count(8) of 40", x.count(8), 40);
        x.pull(0);
        Due.is("count(8) of 41", x.count(8), 40);
        for (int i = 0; i < 40; i++) {
            Due.is("undo() " + i, x.undo(), true);
            Due.is("pulls behind it", x.court(1), 40 - i);
            Due.is("head behind it", x.puppet(0, 1), i % 2);
        }
        Due.is("the 41st", x.undo(), false);
        Due.is("pulls", x.court(1), 1);
    }

    @Says("(the last 40 can be).")
    static void p13_undo_goesRoundMoreThanOnce() {
        PuppetCourt x = Due.court("puppet p 5 0; string n p 2 0 1;");
        for (int i = 0; i < 100; i++) {
            x.pull(0);
        }
        for (int i = 0; i < 30; i++) {
            x.undo();
        }
        for (int i = 0; i < 25; i++) {
            x.pass();
        }
        Due.is("count(8)", x.count(8), 35);
        for (int i = 0; i < 35; i++) {
            Due.is("undo()", x.undo(), true);
            Due.is("pulls", x.court(1), 94 - i);
        }
        Due.is("undo() beyond", x.undo(), false);
        Due.is("pulls at last", x.court(1), 60);
    }
}
