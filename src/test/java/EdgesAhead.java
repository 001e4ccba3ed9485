import java.util.function.ToIntFunction;

/** Boundary cases of promises 14 to 21: what would be. */
final class EdgesAhead {
    private static final int MAX = Integer.MAX_VALUE;
    private static final int MIN = Integer.MIN_VALUE;
    /** One who can only go on, pulled by either. */
    private static final String STEPS = "puppet p 0 0; string a p 2 1 0;";

    private EdgesAhead() {
    }

    /** A verdict once the plaintiff is at this X or behind it. */
    private static String atLeast(int x, int verdict) {
        return "verdict = if " + (x - 1) + " < 0 - apart then " + verdict + " else 0;";
    }

    private static void leavesAll(String call, ToIntFunction<PuppetCourt> ask, int want) {
        PuppetCourt x = Due.court("puppet p 3 0; puppet d 1 0; string a p 0 - 1 1; string b d 1 1 2; string c p 2 - 2 0; child 1;"
            + "storm 100; seed 8; verdict = if apart < 1 then 0 else 1;");
        x.pass();
        x.open();
        x.hold(1);
        x.tell(0, 1, 1);
        String before = Due.state(x);
        Due.is(call, ask.applyAsInt(x), want);
        Due.same(call, Due.state(x), before);
        Due.is("undo()", x.undo(), true);
    }

    private static final String NOTHING = "What would be (nothing happens, no STORMS).";

    // ---- promise 14

    @Says(NOTHING)
    static void p14_after_nothingHappens() {
        leavesAll("after(0, 1)", x -> x.after(0, 1), -1);
        leavesAll("after(2, 0)", x -> x.after(2, 0), 0);
    }

    @Says(NOTHING)
    static void p14_after_noStorms() {
        for (int seed = 0; seed < 20; seed++) {
            PuppetCourt x = Due.court("puppet p 1 0; puppet d 5 0; string a p 2 1 0; string b p 2 2 0; string c p 2 7 0;"
                + "storm 100; seed " + seed + "; verdict = if apart < 0 then 1 else 0;");
            Due.is("after(0, 1)", x.after(0, 1), 3);
            Due.is("after(1, 1)", x.after(1, 1), 2);
            Due.is("after(0, 2)", x.after(0, 2), 0);
            Due.is("after(2, 2)", x.after(2, 2), 1);
        }
    }

    @Says({"AFTER a PULL: TANGLES, apart, the VERDICT.", "AFTER: what 0 TANGLES, 1 apart, 2 the VERDICT;"})
    static void p14_after_everyWhat() {
        PuppetCourt x = Due.court("puppet p 4 0; puppet d 5 0; puppet j 5 0; string a p 2 3 1; verdict = pulls + nods + apart + 2;");
        Due.is("TANGLES", x.after(0, 0), 2);
        Due.is("apart", x.after(0, 1), -2);
        Due.is("the VERDICT", x.after(0, 2), 2);
        Due.is("TANGLES now", x.court(3), 0);
    }

    @Says("-1000: it may not be pulled,")
    static void p14_after_mayNotBePulled() {
        PuppetCourt x = Due.court("puppet p 9 0; string a p 1 0 0; string b p 2 1 0; string c p 2 0 0; string d p 2 0 0;"
            + "order = which - 2; verdict = 1;");
        for (int what = 0; what < 3; what++) {
            Due.is("not his", x.after(0, what), -1000);
            Due.is("beyond X", x.after(1, what), -1000);
            Due.is("not in order", x.after(2, what), -1000);
        }
        Due.is("the last may", x.after(3, 2), 1);
    }

    @Says("-1000: it may not be pulled,")
    static void p14_after_theCaseIsOver() {
        PuppetCourt x = Due.court(STEPS + "verdict = 1;");
        x.pull(0);
        for (int what = 0; what < 3; what++) {
            Due.is("over", x.after(0, what), -1000);
        }
    }

    @Says("no such ones.")
    static void p14_after_noSuchString() {
        PuppetCourt x = Due.court(STEPS);
        for (int string : new int[] {1, 7, -1, MAX, MIN}) {
            Due.is("after(" + string + ", 0)", x.after(string, 0), -1000);
        }
        Due.is("of a new object", new PuppetCourt().after(0, 0), -1000);
    }

    @Says("no such ones.")
    static void p14_after_noSuchWhat() {
        PuppetCourt x = Due.court(STEPS);
        for (int what : new int[] {3, -1, MAX, MIN}) {
            Due.is("after(0, " + what + ")", x.after(0, what), -1000);
        }
    }

    // ---- promise 15

    private static final String FEWEST = "SHORTEST to a VERDICT v: the fewest PULLS (1 .. 5), by turns, each that may be then,";

    @Says(NOTHING)
    static void p15_shortest_nothingHappensAndNoStorms() {
        leavesAll("shortest(1, 0)", x -> x.shortest(1, 0), 2);
        leavesAll("shortest(1, 1)", x -> x.shortest(1, 1), 0);
    }

    @Says({FEWEST, "SHORTEST (v 1, 2): what 0 how many, 1 the first STRING;"})
    static void p15_shortest_oneToFive() {
        for (int v = 1; v <= 2; v++) {
            for (int far = 1; far <= 5; far++) {
                PuppetCourt x = Due.court(STEPS + atLeast(far, v));
                Due.is("how many to " + far, x.shortest(v, 0), far);
                Due.is("the first to " + far, x.shortest(v, 1), 0);
                Due.is("to the other verdict", x.shortest(3 - v, 0), -2);
            }
        }
    }

    @Says("-2: not,")
    static void p15_shortest_six() {
        PuppetCourt x = Due.court(STEPS + atLeast(6, 1));
        Due.is("how many", x.shortest(1, 0), -2);
        Due.is("the first", x.shortest(1, 1), -2);
        x.pull(0);
        Due.is("one nearer", x.shortest(1, 0), 5);
    }

    @Says("-2: not,")
    static void p15_shortest_noStrings() {
        PuppetCourt x = new PuppetCourt();
        Due.is("how many", x.shortest(1, 0), -2);
        Due.is("the first", x.shortest(2, 1), -2);
    }

    @Says(FEWEST)
    static void p15_shortest_byTurns() {
        PuppetCourt x = Due.court("puppet p 0 0; string a p 0 1 0; string b p 1 0 0;" + atLeast(3, 2));
        Due.is("each other turn", x.shortest(2, 0), 5);
        x = Due.court("puppet p 0 0; string a p 0 1 0;" + atLeast(2, 2));
        Due.is("nobody passes", x.shortest(2, 0), -2);
        x = Due.court("puppet p 0 0; string a p 1 1 0; string b p 0 0 0;" + atLeast(1, 2));
        Due.is("the other's string", x.shortest(2, 0), 2);
        x.pass();
        Due.is("the other's string at his turn", x.shortest(2, 0), 1);
    }

    @Says(FEWEST)
    static void p15_shortest_eachThatMayBeThen() {
        // the long step is in order from the third pull on
        PuppetCourt x = Due.court("puppet p 0 0; string a p 2 1 0; string b p 2 7 0; order = 2 * (1 - which) + pulls - 1;"
            + atLeast(9, 1));
        Due.is("a, a, b", x.shortest(1, 0), 3);
        Due.is("the first", x.shortest(1, 1), 0);
        // X is left behind 9
        x = Due.court("puppet p 5 0; string a p 2 5 0; string b p 2 4 0;" + atLeast(9, 1));
        Due.is("beyond X", x.shortest(1, 1), 1);
    }

    @Says("behind the last of which it is v, behind none ahead is any;")
    static void p15_shortest_noneAheadIsAny() {
        PuppetCourt x = Due.court("puppet p 0 0; string a p 2 1 0; verdict = 0 - apart;");
        Due.is("1 at once", x.shortest(1, 0), 1);
        Due.is("2 lies behind 1", x.shortest(2, 0), -2);
        x = Due.court("puppet p 0 0; string a p 2 1 0; string b p 2 3 0; string c p 2 - 1 0; verdict = 0 - apart;");
        Due.is("2 by way of 3", x.shortest(2, 0), 2);
        Due.is("the first", x.shortest(2, 1), 1);
    }

    @Says("the first STRING of the first such row by numbers.")
    static void p15_shortest_theFirstRowByNumbers() {
        PuppetCourt x = Due.court("puppet p 0 0; string a p 2 0 0; string b p 2 1 0; string c p 2 1 0;" + atLeast(2, 1));
        Due.is("how many", x.shortest(1, 0), 2);
        Due.is("b, then b", x.shortest(1, 1), 1);
        x = Due.court("puppet p 0 0; string a p 2 2 0; string b p 2 1 0; string c p 2 3 0; order = 2 - which + pulls;"
            + "verdict = if pulls < 2 then 0 else if 0 - apart < 4 then 0 else if 4 < 0 - apart then 0 else 2;");
        // 4 by a a and by b c: a is the first
        Due.is("a, then a", x.shortest(2, 1), 0);
    }

    @Says("the first STRING of the first such row by numbers.")
    static void p15_shortest_oneStandBySeveralRows() {
        // a b and b a lead to one stand; from there c alone goes on
        PuppetCourt x = Due.court("puppet p 0 0; string a p 2 1 0; string b p 2 2 0; string c p 2 4 0;"
            + "order = if pulls < 2 then 2 - which else which - 1;"
            + "verdict = if pulls < 3 then 0 else if 0 - apart < 7 then 0 else if 7 < 0 - apart then 0 else 1;");
        Due.is("how many", x.shortest(1, 0), 3);
        Due.is("a, b, c", x.shortest(1, 1), 0);
    }

    @Says("the first STRING of the first such row by numbers.")
    static void p15_shortest_fivePullsOfTheSeventh() {
        PuppetCourt x = Due.court("puppet p 0 0; string a p 2 0 0; string b p 2 0 0; string c p 2 0 0; string d p 2 0 0;"
            + "string e p 2 0 0; string f p 2 0 0; string g p 2 1 0;" + atLeast(5, 1));
        Due.is("how many", x.shortest(1, 0), 5);
        Due.is("the first", x.shortest(1, 1), 6);
        Due.is("reach(0, 4)", x.reach(0, 4), 4);
    }

    @Says(FEWEST)
    static void p15_shortest_behindPulls() {
        // a verdict behind the fourth pull of the case
        PuppetCourt x = Due.court("puppet p 0 0; string a p 2 1 0; order = 4 - pulls; verdict = if pulls < 4 then 0 else 1;");
        for (int pulls = 0; pulls < 4; pulls++) {
            Due.is("behind " + pulls, x.shortest(1, 0), 4 - pulls);
            x.pull(0);
        }
    }

    @Says("the case is over; NONE: no such ones.")
    static void p15_shortest_theCaseIsOver() {
        PuppetCourt x = Due.court(STEPS + "verdict = 1;");
        x.pull(0);
        Due.is("how many", x.shortest(1, 0), -2);
        Due.is("the first", x.shortest(1, 1), -2);
    }

    @Says("the case is over; NONE: no such ones.")
    static void p15_shortest_noSuchOnes() {
        PuppetCourt x = Due.court(STEPS + "verdict = 1;");
        for (int bad : new int[] {0, 3, -1, MAX, MIN}) {
            Due.is("shortest(" + bad + ", 0)", x.shortest(bad, 0), -1);
        }
        for (int bad : new int[] {2, -1, MAX, MIN}) {
            Due.is("shortest(1, " + bad + ")", x.shortest(1, bad), -1);
        }
        x.pull(0);
        Due.is("over: shortest(0, 0)", x.shortest(0, 0), -1);
        Due.is("over: shortest(1, 2)", x.shortest(1, 2), -1);
    }

    // ---- promise 16

    private static final String FORCE = "FORCE: whether a SIDE brings about its VERDICT (SIDE 0: 1, SIDE 1: 2) within n PULLS (1 .. 5),";
    private static final String AS_IT_LIKES = "the other one pulling as it likes, by PULLS that may be";

    @Says(NOTHING)
    static void p16_force_nothingHappensAndNoStorms() {
        leavesAll("force(0, 2)", x -> x.force(0, 2), 1);
        leavesAll("force(1, 5)", x -> x.force(1, 5), 0);
    }

    @Says({FORCE, "FORCE: 1;"})
    static void p16_force_withinOneToFive() {
        for (int side = 0; side < 2; side++) {
            for (int far = 1; far <= 6; far++) {
                PuppetCourt x = Due.court(STEPS + atLeast(far, side + 1));
                for (int n = 1; n <= 5; n++) {
                    Due.is("force(" + side + ", " + n + ") to " + far, x.force(side, n), n >= far ? 1 : 0);
                    Due.is("force of the other", x.force(1 - side, n), 0);
                }
            }
        }
    }

    @Says(AS_IT_LIKES)
    static void p16_force_asTheOtherLikes() {
        String text = "puppet p 0 0; string a p 0 1 0; string b p 1 0 0; string c p 1 1 0;";
        PuppetCourt x = Due.court(text + atLeast(3, 1));
        Due.is("within 3, the other stands still", x.force(0, 3), 0);
        Due.is("within 5", x.force(0, 5), 1);
        Due.is("with his help 3", x.shortest(1, 0), 3);
        x = Due.court(text + atLeast(4, 1));
        Due.is("too far", x.force(0, 5), 0);
        x.pass();
        Due.is("at the other's turn, within 4", x.force(0, 4), 0);
    }

    @Says(AS_IT_LIKES)
    static void p16_force_theOthersVerdictEndsIt() {
        PuppetCourt x = Due.court("puppet p 0 0; string a p 0 1 0; string b p 1 5 0;"
            + "verdict = if 4 < 0 - apart then 2 else if 1 < 0 - apart then 1 else 0;");
        Due.is("force(0, 5)", x.force(0, 5), 0);
        Due.is("force(1, 2)", x.force(1, 2), 1);
        Due.is("force(1, 1)", x.force(1, 1), 0);
    }

    @Says(AS_IT_LIKES)
    static void p16_force_whoHasOneMustPullIt() {
        // side 1 may not pass: its only pull is the other's verdict
        PuppetCourt x = Due.court("puppet p 0 0; string a p 0 0 0; string b p 1 1 0;" + atLeast(1, 1));
        Due.is("force(0, 1)", x.force(0, 1), 0);
        Due.is("force(0, 2)", x.force(0, 2), 1);
    }

    @Says("(who has none passes, which counts).")
    static void p16_force_theOtherPasses() {
        PuppetCourt x = Due.court("puppet p 0 0; string a p 0 1 0;" + atLeast(2, 1));
        Due.is("force(0, 2)", x.force(0, 2), 0);
        Due.is("force(0, 3)", x.force(0, 3), 1);
        x = Due.court("puppet p 0 0; string a p 0 1 0;" + atLeast(3, 1));
        Due.is("force(0, 4)", x.force(0, 4), 0);
        Due.is("force(0, 5)", x.force(0, 5), 1);
    }

    @Says("(who has none passes, which counts).")
    static void p16_force_itselfPasses() {
        PuppetCourt x = Due.court("puppet p 0 0; string a p 1 1 0;" + atLeast(1, 2));
        Due.is("force(1, 1)", x.force(1, 1), 0);
        Due.is("force(1, 2)", x.force(1, 2), 1);
        x = Due.court("puppet p 0 0; string a p 1 1 0;" + atLeast(1, 1));
        Due.is("side 0 passes, side 1 must", x.force(0, 2), 1);
    }

    @Says("(who has none passes, which counts).")
    static void p16_force_bothPass() {
        PuppetCourt x = Due.court("verdict = if pulls < 3 then 0 else 1;");
        Due.is("force(0, 2)", x.force(0, 2), 0);
        Due.is("force(0, 3)", x.force(0, 3), 1);
        Due.is("force(1, 5)", x.force(1, 5), 0);
    }

    @Says(FORCE)
    static void p16_force_whoseverTurnItIs() {
        PuppetCourt x = Due.court("puppet p 0 0; string a p 0 0 0; string b p 1 1 0;" + atLeast(1, 2));
        Due.is("force(1, 1) at the other's turn", x.force(1, 1), 0);
        Due.is("force(1, 2) at the other's turn", x.force(1, 2), 1);
        x.pull(0);
        Due.is("force(1, 1) at its turn", x.force(1, 1), 1);
        x = Due.court("puppet p 0 0; string a p 0 1 0; string b p 1 0 0;" + atLeast(1, 1));
        Due.is("force(0, 1) at its turn", x.force(0, 1), 1);
        x.pass();
        Due.is("force(0, 1) then", x.force(0, 1), 0);
        Due.is("force(0, 2) then", x.force(0, 2), 1);
    }

    @Says(FORCE)
    static void p16_force_behindPulls() {
        PuppetCourt x = Due.court("puppet p 0 0; string a p 2 0 0; verdict = if pulls < 4 then 0 else 1;");
        for (int pulls = 0; pulls < 4; pulls++) {
            for (int n = 1; n <= 5; n++) {
                Due.is("force(0, " + n + ") behind " + pulls, x.force(0, n), n >= 4 - pulls ? 1 : 0);
            }
            x.pull(0);
        }
    }

    @Says(AS_IT_LIKES)
    static void p16_force_byPullsThatMayBeThen() {
        // b is in order from the fourth pull of the case on
        PuppetCourt x = Due.court("puppet p 0 0; string a p 2 0 0; string b p 2 1 0; order = 1 + which * (pulls - 3);" + atLeast(1, 1));
        Due.is("force(0, 2)", x.force(0, 2), 0);
        Due.is("force(0, 3)", x.force(0, 3), 0);
        Due.is("force(0, 5)", x.force(0, 5), 1);
        x.pass();
        x.pass();
        Due.is("behind two, force(0, 2)", x.force(0, 2), 0);
        Due.is("behind two, force(0, 3)", x.force(0, 3), 1);
    }

    @Says(AS_IT_LIKES)
    static void p16_force_oneStandInTwoWays() {
        // a b and b a lead to one stand, 3; a a to 2, b b to 4
        String text = "puppet p 0 0; string a p 2 1 0; string b p 2 2 0; string c p 2 0 0;"
            + "order = if pulls < 2 then 2 - which else which - 1; verdict = if pulls < 3 then 0 else ";
        PuppetCourt x = Due.court(text + "if 0 - apart < 3 then 1 else if 3 < 0 - apart then 1 else 2;");
        Due.is("3 is side 1's", x.force(1, 3), 1);
        Due.is("3 is not side 0's", x.force(0, 3), 0);
        Due.is("strong(3)", x.strong(3), -2);
        x = Due.court(text + "if 0 - apart < 3 then 2 else if 3 < 0 - apart then 2 else 1;");
        Due.is("3 is side 0's", x.force(0, 3), 0);
        Due.is("2 and 4 are side 1's", x.force(1, 3), 1);
        x = Due.court(text + "if 0 - apart < 3 then 2 else 1;");
        Due.is("3 and 4 are side 0's", x.force(0, 3), 1);
        Due.is("by b", x.strong(3), 1);
        x = Due.court(text + "if 3 < 0 - apart then 2 else 1;");
        Due.is("2 and 3 are side 0's", x.force(0, 3), 1);
        Due.is("by a", x.strong(3), 0);
    }

    @Says(AS_IT_LIKES)
    static void p16_force_standsSideBySide() {
        PuppetCourt x = Due.court("puppet p 0 0; string a p 1 2 0; string b p 1 1 0; string c p 0 0 0;"
            + "verdict = if pulls < 3 then 0 else if 1 < 0 - apart then 1 else 0;");
        x.pass();
        Due.is("the other pulls b", x.force(0, 2), 0);
        Due.is("with his help", x.shortest(1, 0), 2);
    }

    @Says(AS_IT_LIKES)
    static void p16_force_standsThatAreTwiceOneAnother() {
        PuppetCourt x = Due.court("puppet p 0 0; string a p 0 1 0; string b p 0 2 0; string c p 1 0 0;"
            + "verdict = if pulls < 2 then 0 else if 1 < 0 - apart then 1 else 0;");
        Due.is("force(0, 2)", x.force(0, 2), 1);
        Due.is("strong(2)", x.strong(2), 1);
        x = Due.court("puppet p 0 0; string a p 0 2 0; string b p 0 1 0; string c p 1 0 0;"
            + "verdict = if pulls < 2 then 0 else if 0 - apart < 2 then 1 else 0;");
        Due.is("force(0, 2) by the lesser", x.force(0, 2), 1);
        Due.is("strong(2) by the lesser", x.strong(2), 1);
    }

    @Says("0 not (the case is over, too);")
    static void p16_force_theCaseIsOver() {
        PuppetCourt x = Due.court(STEPS + "verdict = 1;");
        Due.is("force(0, 1)", x.force(0, 1), 1);
        x.pull(0);
        for (int n = 1; n <= 5; n++) {
            Due.is("force(0, " + n + ") over", x.force(0, n), 0);
            Due.is("force(1, " + n + ") over", x.force(1, n), 0);
        }
    }

    @Says("NONE: no such ones.")
    static void p16_force_noSuchOnes() {
        PuppetCourt x = Due.court(STEPS + "verdict = 1;");
        for (int bad : new int[] {2, -1, MAX, MIN}) {
            Due.is("force(" + bad + ", 1)", x.force(bad, 1), -1);
        }
        for (int bad : new int[] {0, 6, -1, MAX, MIN}) {
            Due.is("force(0, " + bad + ")", x.force(0, bad), -1);
        }
        x.pull(0);
        Due.is("over: force(2, 1)", x.force(2, 1), -1);
        Due.is("over: force(0, 6)", x.force(0, 6), -1);
    }

    // ---- promise 17

    private static final String STRAIGHT = "STRAIGHT: the fewest PULLS (0 .. 5), by turns, that may be, without a VERDICT behind any of them,";

    @Says(NOTHING)
    static void p17_straight_nothingHappensAndNoStorms() {
        leavesAll("straight()", PuppetCourt::straight, 1);
    }

    /** Tangled until the plaintiff has come down from 9 to 9 - far, a step a pull. */
    private static PuppetCourt tangled(int far, String law) {
        return Due.court("puppet p 9 0; puppet d " + (9 - far) + " 0; string a p 2 - 1 0;" + law);
    }

    @Says({STRAIGHT, "behind which there are no TANGLES.", "STRAIGHT;"})
    static void p17_straight_noneToFive() {
        for (int far = 0; far <= 5; far++) {
            Due.is("straight() from " + far, tangled(far, "").straight(), far);
        }
        Due.is("of a new object", new PuppetCourt().straight(), 0);
    }

    @Says("-2: not,")
    static void p17_straight_six() {
        Due.is("straight() from 6", tangled(6, "").straight(), -2);
        Due.is("without strings", Due.court("puppet p 9 0; puppet d 8 0;").straight(), -2);
    }

    @Says(STRAIGHT)
    static void p17_straight_byTurns() {
        PuppetCourt x = Due.court("puppet p 9 0; puppet d 6 0; string a p 0 - 1 0; string b d 1 0 1;");
        Due.is("each other turn", x.straight(), 5);
        x = Due.court("puppet p 9 0; puppet d 7 0; string a p 0 - 1 0;");
        Due.is("nobody passes", x.straight(), -2);
        x = Due.court("puppet p 9 0; puppet d 7 0; string a p 2 - 1 0; string b p 2 - 2 0; order = 1 - which + pulls;");
        Due.is("b is not in order at first", x.straight(), 2);
    }

    @Says(STRAIGHT)
    static void p17_straight_withoutAVerdictBehindAny() {
        Due.is("behind the last", tangled(2, "verdict = if apart < 0 then 0 else 1;").straight(), -2);
        Due.is("behind one ahead", tangled(3, "verdict = if apart < 0 - 1 then 0 else if apart < 0 then 2 else 0;").straight(), -2);
        Due.is("behind more than that", tangled(2, "verdict = if apart < 1 then 0 else 1;").straight(), 2);
        // now the law would tell a verdict, but it is looked at behind a pull only
        Due.is("ahead of the first", tangled(1, "verdict = 0 - apart;").straight(), 1);
        Due.is("with no pull at all", tangled(0, "verdict = 1;").straight(), 0);
    }

    @Says("the case is over.")
    static void p17_straight_theCaseIsOver() {
        PuppetCourt x = tangled(0, "verdict = 1;");
        x.pull(0);
        Due.is("no TANGLES", x.court(3), 0);
        Due.is("over", x.straight(), -2);
    }

    // ---- promise 18

    @Says(NOTHING)
    static void p18_reach_nothingHappensAndNoStorms() {
        leavesAll("reach(1, 2)", x -> x.reach(1, 2), 2);
        leavesAll("reach(0, 0)", x -> x.reach(0, 0), -2);
    }

    @Says({"REACH: likewise, behind which a PUPPET is at X.", "REACH;"})
    static void p18_reach_noneToFive() {
        PuppetCourt x = Due.court("puppet p 4 0; puppet d 4 0; string a p 2 1 0; string b d 2 - 1 0;");
        for (int far = 0; far <= 5; far++) {
            Due.is("reach(0, " + (4 + far) + ")", x.reach(0, 4 + far), far);
        }
        for (int far = 0; far <= 4; far++) {
            Due.is("reach(1, " + (4 - far) + ")", x.reach(1, 4 - far), far);
        }
        Due.is("not backwards", x.reach(0, 3), -2);
    }

    @Says("-2: not,")
    static void p18_reach_six() {
        PuppetCourt x = Due.court("puppet p 3 0; string a p 2 1 0;");
        Due.is("five away", x.reach(0, 8), 5);
        Due.is("six away", x.reach(0, 9), -2);
    }

    @Says("REACH: likewise, behind which a PUPPET is at X.")
    static void p18_reach_theEndsOfTheStage() {
        PuppetCourt x = Due.court("puppet p 5 0; string a p 2 4 0; string b p 2 - 5 0; string c p 2 5 0;");
        Due.is("9", x.reach(0, 9), 1);
        Due.is("0", x.reach(0, 0), 1);
        Due.is("4 by way of 9 or 0", x.reach(0, 4), 2);
    }

    @Says("REACH: likewise, behind which a PUPPET is at X.")
    static void p18_reach_withoutAVerdictBehindAny() {
        PuppetCourt x = Due.court("puppet p 5 0; string a p 2 1 0; string b p 2 2 0; verdict = if 0 - apart < 7 then 0 else"
            + " if 7 < 0 - apart then 0 else 1;");
        Due.is("with a verdict", x.reach(0, 7), -2);
        Due.is("round it", x.reach(0, 8), 2);
        Due.is("at once", x.reach(0, 5), 0);
        x = Due.court("puppet p 0 0; string a p 2 1 0; verdict = if pulls < 2 then 0 else 2;");
        Due.is("ahead of a verdict", x.reach(0, 1), 1);
        Due.is("with it", x.reach(0, 2), -2);
    }

    @Says("the case is over;")
    static void p18_reach_theCaseIsOver() {
        PuppetCourt x = Due.court("puppet p 5 0; string a p 2 1 0; verdict = 1;");
        x.pull(0);
        Due.is("where it is", x.reach(0, 6), -2);
        Due.is("over: reach(1, 6)", x.reach(1, 6), -1);
        Due.is("over: reach(0, 10)", x.reach(0, 10), -1);
    }

    @Says("NONE: no such ones (X 0 .. 9).")
    static void p18_reach_noSuchOnes() {
        PuppetCourt x = Due.court("puppet p 5 0; string a p 2 1 0;");
        for (int bad : new int[] {1, 5, -1, MAX, MIN}) {
            Due.is("reach(" + bad + ", 5)", x.reach(bad, 5), -1);
        }
        for (int bad : new int[] {10, -1, 15, 16, MAX, MIN}) {
            Due.is("reach(0, " + bad + ")", x.reach(0, bad), -1);
        }
    }

    // ---- promise 19

    @Says(NOTHING)
    static void p19_strong_nothingHappensAndNoStorms() {
        leavesAll("strong(3)", x -> x.strong(3), 0);
        leavesAll("strong(2)", x -> x.strong(2), 2);
    }

    @Says({"STRONG within n PULLS: the first STRING that may be pulled now, by whose turn it is, by which his SIDE FORCES its VERDICT within them.",
        "STRONG (n 1 .. 5);"})
    static void p19_strong_withinOneToFive() {
        for (int far = 1; far <= 6; far++) {
            PuppetCourt x = Due.court(STEPS + atLeast(far, 1));
            for (int n = 1; n <= 5; n++) {
                Due.is("strong(" + n + ") to " + far, x.strong(n), n >= far ? 0 : -2);
            }
        }
    }

    @Says("STRONG within n PULLS: the first STRING that may be pulled now, by whose turn it is, by which his SIDE FORCES its VERDICT within them.")
    static void p19_strong_theFirstThatMay() {
        String text = "puppet p 0 0; string a p 1 3 0; string b p 0 1 0; string c p 2 2 0; string d p 0 3 0; string e p 2 - 1 0;";
        PuppetCourt x = Due.court(text + atLeast(3, 1));
        Due.is("strong(1)", x.strong(1), 3);
        Due.is("strong(2)", x.strong(2), 3);
        x = Due.court(text + atLeast(2, 1));
        Due.is("strong(1) of two", x.strong(1), 2);
        x = Due.court(text + "order = 3 - which;" + atLeast(3, 1));
        Due.is("strong(1), d is not in order", x.strong(1), -2);
    }

    @Says("STRONG within n PULLS: the first STRING that may be pulled now, by whose turn it is, by which his SIDE FORCES its VERDICT within them.")
    static void p19_strong_hisSidesVerdict() {
        PuppetCourt x = Due.court("puppet p 0 0; string a p 2 1 0; string b p 2 2 0; verdict = 0 - apart;");
        Due.is("side 0: 1", x.strong(1), 0);
        x.pass();
        Due.is("side 1: 2", x.strong(1), 1);
    }

    @Says("STRONG within n PULLS: the first STRING that may be pulled now, by whose turn it is, by which his SIDE FORCES its VERDICT within them.")
    static void p19_strong_behindPulls() {
        PuppetCourt x = Due.court("puppet p 0 0; string a p 2 0 0; string b p 1 1 0; order = if which < 1 then 1 else pulls - 2;"
            + atLeast(1, 2));
        Due.is("side 0", x.strong(5), -2);
        x.pass();
        Due.is("side 1, b not yet in order", x.strong(2), -2);
        Due.is("side 1, within 3", x.strong(3), 0);
        x.pass();
        x.pass();
        Due.is("side 1, b in order", x.strong(1), 1);
    }

    @Says("-2: none,")
    static void p19_strong_none() {
        Due.is("no strings", new PuppetCourt().strong(5), -2);
        PuppetCourt x = Due.court("verdict = 1;");
        Due.is("a pass is no string", x.strong(5), -2);
        Due.is("though it forces", x.force(0, 5), 1);
        Due.is("no verdict", Due.court(STEPS).strong(5), -2);
    }

    @Says("the case is over;")
    static void p19_strong_theCaseIsOver() {
        PuppetCourt x = Due.court(STEPS + "verdict = 1 + pulls - pulls;");
        x.pull(0);
        Due.is("over", x.strong(1), -2);
        Due.is("over: strong(0)", x.strong(0), -1);
        x = Due.court(STEPS + "verdict = 2;");
        x.pull(0);
        Due.is("over at side 1's turn", x.strong(5), -2);
    }

    @Says("NONE: no such n.")
    static void p19_strong_noSuchN() {
        PuppetCourt x = Due.court(STEPS + "verdict = 1;");
        for (int bad : new int[] {0, 6, -1, MAX, MIN}) {
            Due.is("strong(" + bad + ")", x.strong(bad), -1);
        }
    }

    // ---- promise 20

    @Says("How many STRINGS a SIDE might pull now if it were its turn;")
    static void p20_free_ifItWereItsTurn() {
        PuppetCourt x = Due.court("puppet p 9 0; string a p 0 0 0; string b p 1 0 0; string c p 2 0 0; string d p 1 1 0;"
            + "string e p 1 - 9 0; string f p 1 - 9 0; order = if which < 5 then 1 else 0;");
        for (int turn = 0; turn < 2; turn++) {
            Due.is("free(0)", x.free(0), 2);
            Due.is("free(1)", x.free(1), 3);
            x.pass();
        }
        Due.is("of a new object", new PuppetCourt().free(0), 0);
    }

    @Says("How many STRINGS a SIDE might pull now if it were its turn;")
    static void p20_free_theLawsSideIsTheirs() {
        PuppetCourt x = Due.court("puppet p 5 0; string a p 2 0 0; string b p 2 0 0; order = if side < 1 then 1 else which;");
        Due.is("free(0)", x.free(0), 2);
        Due.is("free(1)", x.free(1), 1);
        x.pass();
        Due.is("free(0) at the other's turn", x.free(0), 2);
        Due.is("free(1) at its turn", x.free(1), 1);
    }

    @Says("How many STRINGS a SIDE might pull now if it were its turn;")
    static void p20_free_theCaseIsOver() {
        PuppetCourt x = Due.court(STEPS + "verdict = 1;");
        x.pull(0);
        Due.is("free(0)", x.free(0), 0);
        Due.is("free(1)", x.free(1), 0);
    }

    @Says("NONE: no such one.")
    static void p20_free_noSuchSide() {
        PuppetCourt x = Due.court(STEPS);
        for (int bad : new int[] {2, 3, -1, MAX, MIN}) {
            Due.is("free(" + bad + ")", x.free(bad), -1);
        }
    }

    // ---- promise 21

    private static final String THREE = "puppet p 5 0; string a p 2 0 0; string b p 2 0 0; string c p 2 0 0;";

    @Says("The STRING that was pulled most so far, of alike ones the first;")
    static void p21_worn_ofAlikeOnesTheFirst() {
        PuppetCourt x = Due.court(THREE);
        int[] pulls = {2, 1, 1, 0, 0, 2, 2};
        int[] want = {2, 1, 1, 1, 0, 0, 2};
        for (int i = 0; i < pulls.length; i++) {
            x.pull(pulls[i]);
            Due.is("behind pull " + i, x.worn(), want[i]);
        }
        x.open();
        Due.is("in a new case", x.worn(), 2);
        x.undo();
        x.undo();
        Due.is("undone", x.worn(), 0);
    }

    @Says("The STRING that was pulled most so far, of alike ones the first;")
    static void p21_worn_theSeventh() {
        PuppetCourt x = Due.court("puppet p 5 0; string a p 2 0 0; string b p 2 0 0; string c p 2 0 0; string d p 2 0 0;"
            + "string e p 2 0 0; string f p 2 0 0; string g p 2 0 0;");
        x.pull(6);
        Due.is("worn()", x.worn(), 6);
    }

    @Says("-2: none was.")
    static void p21_worn_noneWas() {
        PuppetCourt x = Due.court(THREE);
        Due.is("worn()", x.worn(), -2);
        x.pass();
        Due.is("behind a pass", x.worn(), -2);
        x.pull(1);
        x.undo();
        Due.is("undone", x.worn(), -2);
        Due.is("of a new object", new PuppetCourt().worn(), -2);
    }
}
