/** Boundary cases of promises 30 to 37: what is told, what was behind the cloth, slots, counts. */
final class EdgesBehind {
    private static final int MAX = Integer.MAX_VALUE;
    private static final int MIN = Integer.MIN_VALUE;
    /** Each string moves its puppet by its own length. */
    private static final String CLOTH = "puppet p 1 0; puppet d 8 0; string a p 0 1 0; string b p 1 - 1 0; string c d 2 1 0;";

    private EdgesBehind() {
    }

    // ---- promise 30

    private static final String TOLD = "TOLD: that a PUPPET was seen at X behind the n-th PULL (1 .. 5) from now on, 20 at most, numbered from 0 on;";

    @Says({TOLD, "It is TOLD: its number;"})
    static void p30_tell_numberedFrom0On() {
        PuppetCourt x = Due.court(CLOTH);
        for (int i = 0; i < 20; i++) {
            Due.is("tell " + i, x.tell(i % 2, 1 + i % 5, i % 10), i);
        }
        x.forget();
        Due.is("tell behind forget()", x.tell(0, 1, 1), 0);
    }

    @Says({TOLD, "NONE, and nothing happens: 20 are there,"})
    static void p30_tell_20AreThere() {
        PuppetCourt x = Due.court(CLOTH);
        for (int i = 0; i < 20; i++) {
            x.tell(0, 1, 2);
        }
        Due.is("the 21st", x.tell(0, 1, 3), -1);
        Due.is("count(9)", x.count(9), 20);
        Due.is("cloth(20, 1)", x.cloth(20, 1), 1);
        Due.is("cloth(21, 1)", x.cloth(21, 1), -1);
    }

    @Says("no such ones.")
    static void p30_tell_noSuchPuppet() {
        PuppetCourt x = Due.court(CLOTH);
        for (int bad : new int[] {2, 5, -1, MAX, MIN}) {
            Due.is("tell(" + bad + ", 1, 1)", x.tell(bad, 1, 1), -1);
        }
        Due.is("count(9)", x.count(9), 0);
        Due.is("of a new object", new PuppetCourt().tell(0, 1, 1), -1);
    }

    @Says({"no such ones.", TOLD})
    static void p30_tell_nFrom1To5() {
        PuppetCourt x = Due.court(CLOTH);
        for (int bad : new int[] {0, 6, -1, MAX, MIN}) {
            Due.is("tell(0, " + bad + ", 1)", x.tell(0, bad, 1), -1);
        }
        Due.is("n 1", x.tell(0, 1, 1), 0);
        Due.is("n 5", x.tell(0, 5, 1), 1);
    }

    @Says("no such ones.")
    static void p30_tell_xFrom0To9() {
        PuppetCourt x = Due.court(CLOTH);
        for (int bad : new int[] {10, -1, 16, MAX, MIN}) {
            Due.is("tell(0, 1, " + bad + ")", x.tell(0, 1, bad), -1);
        }
        Due.is("X 0", x.tell(0, 1, 0), 0);
        Due.is("X 9", x.tell(1, 1, 9), 1);
        Due.is("p at 0, and d at 9", x.cloth(2, 1), 0);
        Due.is("p at 0", x.cloth(1, 1), 1);
    }

    @Says("from now on,")
    static void p30_tell_inACaseThatIsOver() {
        PuppetCourt x = Due.court(CLOTH + "verdict = 1;");
        x.pull(0);
        Due.is("tell", x.tell(0, 1, 3), 0);
        Due.is("cloth", x.cloth(1, 1), 1);
    }

    // ---- promise 31

    @Says("All that was TOLD is forgotten: how many there were.")
    static void p31_forget_all() {
        PuppetCourt x = Due.court(CLOTH);
        Due.is("of none", x.forget(), 0);
        for (int i = 0; i < 20; i++) {
            x.tell(0, 1, 9);
        }
        Due.is("of twenty", x.forget(), 20);
        Due.is("again", x.forget(), 0);
        Due.is("count(9)", x.count(9), 0);
        Due.is("cloth(1, 1)", x.cloth(1, 1), -1);
        Due.is("cloth(0, 1)", x.cloth(0, 1), 3);
    }

    // ---- promise 32

    private static final String ROWS = "CLOTH: rows of n STRINGS (0 .. 5), pulled one after the other, each PUPPET staying within X,";

    @Says({"KNOWN by k: the first k.", "CLOTH, as KNOWN by k;"})
    static void p32_cloth_theFirstK() {
        PuppetCourt x = Due.court(CLOTH);
        x.tell(0, 1, 2);
        x.tell(0, 2, 3);
        x.tell(1, 2, 9);
        // of 7 rows of two: behind a first a a, a b, a c; then a a; then none
        int[] want = {7, 3, 1, 0};
        for (int k = 0; k <= 3; k++) {
            Due.is("cloth(" + k + ", 2)", x.cloth(k, 2), want[k]);
        }
    }

    @Says(ROWS)
    static void p32_cloth_rowsOfNoneToFive() {
        PuppetCourt x = Due.court("puppet p 5 0; string a p 0 0 0; string b p 1 0 1; string c p 2 0 2;");
        int want = 1;
        for (int n = 0; n <= 5; n++) {
            Due.is("cloth(0, " + n + ")", x.cloth(0, n), want);
            want *= 3;
        }
        x = Due.court("puppet p 5 0; string a p 0 0 0; string b p 0 0 0; string c p 0 0 0; string d p 0 0 0; string e p 0 0 0;"
            + "string f p 0 0 0; string g p 0 0 0;");
        Due.is("seven strings", x.cloth(0, 5), 16807);
    }

    @Says(ROWS)
    static void p32_cloth_withoutStrings() {
        PuppetCourt x = new PuppetCourt();
        Due.is("rows of none", x.cloth(0, 0), 1);
        for (int n = 1; n <= 5; n++) {
            Due.is("rows of " + n, x.cloth(0, n), 0);
        }
    }

    @Says(ROWS)
    static void p32_cloth_withinX() {
        PuppetCourt x = Due.court("puppet p 9 0; string a p 2 - 9 0; string b p 2 9 0; string c p 2 - 8 0;");
        // from 9 to 0 or 1; from 0 to 9; from 1 nowhere
        Due.is("cloth(0, 1)", x.cloth(0, 1), 2);
        Due.is("cloth(0, 2)", x.cloth(0, 2), 1);
        Due.is("cloth(0, 3)", x.cloth(0, 3), 2);
        Due.is("cloth(0, 5)", x.cloth(0, 5), 2);
        x = Due.court("puppet p 8 0; string a p 2 1 0; string b p 2 2 0;");
        Due.is("to 9, not to 10", x.cloth(0, 1), 1);
        x = Due.court("puppet p 1 0; string a p 2 - 1 0; string b p 2 - 2 0;");
        Due.is("to 0, not to -1", x.cloth(0, 1), 1);
    }

    @Says("whosever they are, in ORDER or not,")
    static void p32_cloth_whoseverInOrderOrNot() {
        PuppetCourt x = Due.court(CLOTH + "order = 0; verdict = 1;");
        Due.is("cloth(0, 1)", x.cloth(0, 1), 3);
        x.pass();
        Due.is("over", x.count(14), 1);
        Due.is("cloth(0, 1) over", x.cloth(0, 1), 3);
    }

    @Says("by which all is as KNOWN (of later PULLS: not looked at): how many;")
    static void p32_cloth_ofLaterPullsNotLookedAt() {
        PuppetCourt x = Due.court(CLOTH);
        x.tell(0, 2, 9);
        Due.is("cloth(1, 0)", x.cloth(1, 0), 1);
        Due.is("cloth(1, 1)", x.cloth(1, 1), 3);
        Due.is("cloth(1, 2)", x.cloth(1, 2), 0);
        Due.is("cloth(1, 3)", x.cloth(1, 3), 0);
    }

    @Says("by which all is as KNOWN (of later PULLS: not looked at): how many;")
    static void p32_cloth_behindTheFifth() {
        PuppetCourt x = Due.court("puppet p 0 0; string a p 2 1 0; string b p 2 0 0;");
        x.tell(0, 5, 4);
        Due.is("four a of five", x.cloth(1, 5), 5);
        Due.is("rows of four", x.cloth(1, 4), 16);
        x.tell(0, 1, 0);
        Due.is("b first", x.cloth(2, 5), 1);
        x.tell(0, 1, 1);
        Due.is("a first and b first", x.cloth(3, 5), 0);
    }

    @Says("by which all is as KNOWN (of later PULLS: not looked at): how many;")
    static void p32_cloth_fromHowTheyStandNow() {
        PuppetCourt x = Due.court(CLOTH);
        x.tell(0, 1, 3);
        Due.is("from 1", x.cloth(1, 1), 0);
        x.pull(0);
        Due.is("from 2", x.cloth(1, 1), 1);
        Due.is("nothing happened", x.court(1), 1);
    }

    @Says("NONE: no such ones.")
    static void p32_cloth_noSuchOnes() {
        PuppetCourt x = Due.court(CLOTH);
        x.tell(0, 1, 2);
        for (int bad : new int[] {2, -1, MAX, MIN}) {
            Due.is("cloth(" + bad + ", 1)", x.cloth(bad, 1), -1);
        }
        for (int bad : new int[] {6, -1, MAX, MIN}) {
            Due.is("cloth(1, " + bad + ")", x.cloth(1, bad), -1);
        }
    }

    // ---- promise 33

    @Says({"SURE: the i-th STRING of all such rows.", "SURE (i 0 .. n less 1): the STRING;"})
    static void p33_sure_theFirstAndTheLast() {
        PuppetCourt x = Due.court("puppet p 0 0; string a p 2 1 0; string b p 2 3 0; string c p 2 - 1 0;");
        int[] seen = {1, 4, 3, 6, 5};
        int[] row = {0, 1, 2, 1, 2};
        for (int i = 0; i < 5; i++) {
            x.tell(0, i + 1, seen[i]);
        }
        for (int i = 0; i < 5; i++) {
            Due.is("sure(5, 5, " + i + ")", x.sure(5, 5, i), row[i]);
        }
        Due.is("of rows of one", x.sure(1, 1, 0), 0);
    }

    @Says("-2: this or that one,")
    static void p33_sure_thisOrThatOne() {
        PuppetCourt x = Due.court("puppet p 0 0; string a p 2 1 0; string b p 2 0 0; string c p 2 0 0;");
        x.tell(0, 1, 1);
        x.tell(0, 2, 1);
        Due.is("a, then b or c", x.sure(2, 2, 0), 0);
        Due.is("b or c", x.sure(2, 2, 1), -2);
        Due.is("one more", x.sure(2, 3, 2), -2);
        Due.is("as before", x.sure(2, 3, 0), 0);
        Due.is("nothing known", x.sure(0, 1, 0), -2);
        // b c, then c: not sure again though the last rows are alike
        x = Due.court("puppet p 0 0; puppet d 0 0; string a p 2 1 0; string b p 2 1 0; string c d 2 1 0;");
        x.tell(0, 2, 1);
        x.tell(1, 2, 1);
        Due.is("a c, b c, c a, c b", x.cloth(2, 2), 4);
        Due.is("the first", x.sure(2, 2, 0), -2);
        Due.is("the second", x.sure(2, 2, 1), -2);
    }

    @Says("-2: this or that one,")
    static void p33_sure_theFirstOrTheSecond() {
        PuppetCourt x = Due.court("puppet p 0 0; string a p 2 1 0; string b p 2 0 0;");
        for (int n = 1; n <= 5; n++) {
            for (int i = 0; i < n; i++) {
                Due.is("sure(0, " + n + ", " + i + ")", x.sure(0, n, i), -2);
            }
        }
    }

    @Says("no rows;")
    static void p33_sure_noRows() {
        PuppetCourt x = Due.court(CLOTH);
        x.tell(0, 1, 9);
        Due.is("sure(1, 1, 0)", x.sure(1, 1, 0), -2);
        Due.is("without strings", new PuppetCourt().sure(0, 1, 0), -2);
    }

    @Says({"NONE: no such ones.", "SURE (i 0 .. n less 1): the STRING;"})
    static void p33_sure_noSuchI() {
        PuppetCourt x = Due.court(CLOTH);
        for (int n = 0; n <= 5; n++) {
            Due.is("i of n, " + n, x.sure(0, n, n), -1);
            Due.is("i below 0, " + n, x.sure(0, n, -1), -1);
            Due.is("i max, " + n, x.sure(0, n, MAX), -1);
            Due.is("i min, " + n, x.sure(0, n, MIN), -1);
        }
    }

    @Says("NONE: no such ones.")
    static void p33_sure_noSuchOnes() {
        PuppetCourt x = Due.court(CLOTH);
        x.tell(0, 1, 9);
        for (int bad : new int[] {2, -1, MAX, MIN}) {
            Due.is("sure(" + bad + ", 1, 0)", x.sure(bad, 1, 0), -1);
        }
        for (int bad : new int[] {6, 0, -1, MAX, MIN}) {
            Due.is("sure(1, " + bad + ", 0)", x.sure(1, bad, 0), -1);
        }
    }

    // ---- promise 34

    private static final String LOOK = "LOOK for n: the PUPPET of which, once one knows X behind the n-th, fewest rows are left, at worst;";

    @Says({LOOK, "LOOK;"})
    static void p34_look_fewestAtWorst() {
        // p ends at 4, 4, 4 and 5; d at 4, 5, 3 and 4: at worst 3 and 2 rows
        PuppetCourt x = Due.court("puppet p 4 0; puppet d 4 0; string a p 0 1 0; string b d 1 1 0; string c d 2 - 1 0;"
            + "string e d 2 0 1;");
        Due.is("look(0, 1)", x.look(0, 1), 1);
        // at worst, not on the average: p ends at 4 4 4 2 3 5 6, d at 4 4 4 4 5 5 5
        x = Due.court("puppet p 4 0; puppet d 4 0; string a p 0 - 2 0; string b p 1 - 1 0; string c p 2 1 0; string e p 2 2 0;"
            + "string f d 2 1 0; string g d 2 1 0; string h d 2 1 0;");
        Due.is("3 and 4", x.look(0, 1), 0);
    }

    @Says("of alike ones the first.")
    static void p34_look_ofAlikeOnesTheFirst() {
        PuppetCourt x = Due.court("puppet p 4 0; puppet d 4 0; puppet j 4 0; string a d 2 1 0; string b j 2 1 0;");
        // p: 2 at worst; d: 1; j: 1
        Due.is("look(0, 1)", x.look(0, 1), 1);
        x = Due.court("puppet p 4 0; puppet d 4 0; string a p 2 0 0;");
        Due.is("all alike", x.look(0, 1), 0);
    }

    @Says(LOOK)
    static void p34_look_rowsOfNone() {
        PuppetCourt x = Due.court(CLOTH);
        Due.is("look(0, 0)", x.look(0, 0), 0);
    }

    @Says(LOOK)
    static void p34_look_theEndsOfTheStage() {
        // p ends at 0 and 9 and 5, d always at 5
        PuppetCourt x = Due.court("puppet d 5 0; puppet p 5 0; string a p 2 - 5 0; string b p 2 4 0; string c p 2 0 0;");
        Due.is("look(0, 1)", x.look(0, 1), 1);
        // one stands at the stage's end, the other at one of two places
        for (int end : new int[] {0, 9}) {
            x = Due.court("puppet p " + end + " 0; puppet d 5 0; string a d 2 1 0; string b d 2 1 0; string c d 2 2 0;");
            Due.is("look(0, 1) with one at " + end, x.look(0, 1), 1);
        }
    }

    @Says(LOOK)
    static void p34_look_askedAgain() {
        PuppetCourt x = Due.court("puppet p 4 0; puppet d 4 0; string a p 2 1 0; string b p 2 2 0; string c p 2 - 1 0; string e d 2 1 0;");
        Due.is("look(0, 5)", x.look(0, 5), 0);
        x.tell(0, 2, 4);
        // a c, c a, e e: p is at 4 in all of them, d at 4 in two
        Due.is("cloth(1, 2)", x.cloth(1, 2), 3);
        Due.is("look(1, 2)", x.look(1, 2), 1);
        Due.is("look(0, 5) again", x.look(0, 5), 0);
    }

    @Says(LOOK)
    static void p34_look_asKnown() {
        PuppetCourt x = Due.court("puppet p 4 0; puppet d 4 0; string a p 2 1 0; string b p 2 2 0; string c d 2 1 0; string e d 2 2 0;"
            + "string f d 2 3 0;");
        Due.is("nothing known", x.look(0, 1), 1);
        x.tell(1, 1, 4);
        Due.is("d stood still", x.look(1, 1), 0);
        // behind the second p ends at 5 5 5 6 6 6 6 7 7 8, d at 4 four times: alike, 4 at worst
        Due.is("behind the second", x.look(1, 2), 0);
    }

    @Says("-2: no rows,")
    static void p34_look_noRows() {
        PuppetCourt x = Due.court(CLOTH);
        x.tell(0, 1, 9);
        Due.is("look(1, 1)", x.look(1, 1), -2);
        Due.is("no strings", Due.court("puppet p 1 0;").look(0, 1), -2);
    }

    @Says("no PUPPETS;")
    static void p34_look_noPuppets() {
        PuppetCourt x = new PuppetCourt();
        Due.is("look(0, 0)", x.look(0, 0), -2);
        Due.is("look(0, 5)", x.look(0, 5), -2);
    }

    @Says("NONE: no such ones.")
    static void p34_look_noSuchOnes() {
        PuppetCourt x = Due.court(CLOTH);
        x.tell(0, 1, 9);
        for (int bad : new int[] {2, -1, MAX, MIN}) {
            Due.is("look(" + bad + ", 1)", x.look(bad, 1), -1);
        }
        for (int bad : new int[] {6, -1, MAX, MIN}) {
            Due.is("look(1, " + bad + ")", x.look(1, bad), -1);
        }
        Due.is("of a new object", new PuppetCourt().look(1, 1), -1);
    }

    // ---- promise 35

    private static final String GOING = "puppet p 3 0; puppet d 4 0; string a p 2 1 3; string b d 2 - 1 1; verdict = pulls / 3;"
        + "storm 40; seed 5; child 2; votes = 3 + pulls;";

    private static PuppetCourt going(int things) {
        PuppetCourt x = Due.court(GOING);
        for (int i = 0; i < things; i++) {
            if (i % 4 == 3) {
                x.open();
            } else {
                x.pull(i % 2);
            }
        }
        return x;
    }

    /** The state but for the slots and how much can be undone. */
    private static String withoutPast(PuppetCourt x) {
        return Due.state(x).replaceFirst(" 8:\\d+ ", " ").replaceFirst(" 10:\\d+ ", " ");
    }

    @Says("All that goes on (not what is TOLD, nor the tape) is held in a SLOT (0 .. 2): true;")
    static void p35_hold_allThatGoesOn() {
        for (int things = 0; things < 12; things++) {
            PuppetCourt x = going(things);
            Due.is("hold", x.hold(things % 3), true);
            for (int i = 0; i < 5; i++) {
                x.open();
                x.pull(1);
                x.pull(0);
                x.pass();
            }
            Due.is("restore", x.restore(things % 3), true);
            Due.same("behind " + things, withoutPast(x), withoutPast(going(things)));
        }
    }

    @Says("All that goes on (not what is TOLD, nor the tape) is held in a SLOT (0 .. 2): true;")
    static void p35_hold_notWhatIsToldNorTheTape() {
        PuppetCourt x = Due.court(CLOTH);
        x.tell(0, 1, 2);
        Due.type(x, "seed");
        x.hold(0);
        x.tell(0, 2, 3);
        Due.type(x, " 12");
        x.restore(0);
        Due.is("TOLD", x.count(9), 2);
        Due.is("the tape", x.count(7), 7);
        x.forget();
        x.back(7);
        x.restore(0);
        Due.is("TOLD then", x.count(9), 0);
        Due.is("the tape then", x.count(7), 0);
    }

    @Says("All that goes on (not what is TOLD, nor the tape) is held in a SLOT (0 .. 2): true;")
    static void p35_hold_threeSlots() {
        PuppetCourt x = Due.court(CLOTH);
        for (int slot = 0; slot < 3; slot++) {
            Due.is("hold(" + slot + ")", x.hold(slot), true);
            Due.is("count(10)", x.count(10), slot + 1);
            x.pass();
        }
        for (int slot = 2; slot >= 0; slot--) {
            Due.is("restore(" + slot + ")", x.restore(slot), true);
            Due.is("pulls of " + slot, x.court(1), slot);
        }
    }

    @Says("All that goes on (not what is TOLD, nor the tape) is held in a SLOT (0 .. 2): true;")
    static void p35_hold_inASlotThatHoldsSomething() {
        PuppetCourt x = Due.court(CLOTH);
        x.hold(1);
        x.pass();
        x.hold(1);
        Due.is("count(10)", x.count(10), 1);
        x.pass();
        x.restore(1);
        Due.is("the latest", x.court(1), 1);
    }

    @Says("All that goes on (not what is TOLD, nor the tape) is held in a SLOT (0 .. 2): true;")
    static void p35_hold_leavesAllAsItIs() {
        PuppetCourt x = going(2);
        String before = withoutPast(x);
        x.hold(0);
        Due.same("behind hold(0)", withoutPast(x), before);
        Due.is("undo()", x.undo(), true);
    }

    @Says("false: no such one.")
    static void p35_hold_noSuchSlot() {
        PuppetCourt x = going(2);
        for (int bad : new int[] {3, -1, 32, MAX, MIN}) {
            Due.is("hold(" + bad + ")", x.hold(bad), false);
        }
        Due.is("count(10)", x.count(10), 0);
        Due.is("of a new object", new PuppetCourt().hold(0), true);
    }

    // ---- promise 36

    @Says("It goes on from what a SLOT holds (that stays there; nothing can be undone then): true;")
    static void p36_restore_thatStaysThere() {
        PuppetCourt x = Due.court(CLOTH);
        x.pull(0);
        x.hold(2);
        for (int i = 0; i < 3; i++) {
            x.pull(2);
            x.open();
            Due.is("restore(2)", x.restore(2), true);
            Due.is("pulls", x.court(1), 1);
            Due.is("cases", x.count(3), 1);
            Due.is("X", x.puppet(0, 0), 2);
            Due.is("count(10)", x.count(10), 1);
        }
    }

    @Says("It goes on from what a SLOT holds (that stays there; nothing can be undone then): true;")
    static void p36_restore_nothingCanBeUndoneThen() {
        PuppetCourt x = going(3);
        x.hold(0);
        x.open();
        Due.is("count(8)", x.count(8), 4);
        x.restore(0);
        Due.is("count(8) then", x.count(8), 0);
        Due.is("undo()", x.undo(), false);
        x.open();
        Due.is("undo() of what came then", x.undo(), true);
        Due.is("and no more", x.undo(), false);
        Due.is("over", x.count(14), 1);
    }

    @Says("It goes on from what a SLOT holds (that stays there; nothing can be undone then): true;")
    static void p36_restore_theStormsGoOnFromThere() {
        PuppetCourt x = Due.court("puppet p 5 0; string a p 2 0 0; string b p 2 0 0; string c p 2 0 0; storm 50; seed 4;");
        x.pull(0);
        x.hold(0);
        String[] behind = new String[2];
        for (int i = 0; i < 2; i++) {
            StringBuilder drawn = new StringBuilder();
            for (int pull = 0; pull < 20; pull++) {
                x.pull(0);
                drawn.append(x.string(0, 4)).append(' ').append(x.string(1, 4)).append(' ').append(x.count(6)).append(';');
            }
            behind[i] = drawn.toString();
            x.restore(0);
        }
        Due.same("the storms again", behind[1], behind[0]);
    }

    @Says("false, and nothing happens: no such one,")
    static void p36_restore_noSuchSlot() {
        PuppetCourt x = going(2);
        x.hold(0);
        x.open();
        String before = Due.state(x);
        for (int bad : new int[] {3, -1, 32, MAX, MIN}) {
            Due.is("restore(" + bad + ")", x.restore(bad), false);
        }
        Due.same("nothing happened", Due.state(x), before);
        Due.is("undo()", x.undo(), true);
    }

    @Says("nothing is held.")
    static void p36_restore_nothingIsHeld() {
        PuppetCourt x = going(2);
        x.hold(1);
        x.open();
        String before = Due.state(x);
        Due.is("restore(0)", x.restore(0), false);
        Due.is("restore(2)", x.restore(2), false);
        Due.same("nothing happened", Due.state(x), before);
        Due.is("of a new object", new PuppetCourt().restore(0), false);
    }

    // ---- promise 37

    @Says("0 PUPPETS, 1 STRINGS, 2 CHILDREN, 3 cases so far, 4 pulls of all, 5 PRECEDENTS, 6 STORMS so far,")
    static void p37_count_whatWasToldAndPulled() {
        PuppetCourt x = Due.court("puppet p 3 0; puppet d 4 0; string a p 2 1 0; child 1; child 2; child 3; storm 100;"
            + "verdict = pulls / 2;");
        x.pull(0);
        x.pass();
        x.open();
        x.pull(0);
        x.open();
        int[] want = {2, 1, 3, 3, 3, 1, 2};
        for (int what = 0; what < want.length; what++) {
            Due.is("count(" + what + ")", x.count(what), want[what]);
        }
    }

    @Says("0 PUPPETS, 1 STRINGS, 2 CHILDREN, 3 cases so far, 4 pulls of all, 5 PRECEDENTS, 6 STORMS so far,")
    static void p37_count_ofFiveHundredPulls() {
        PuppetCourt x = Due.court("puppet p 5 0; string n p 2 0 1;");
        for (int i = 0; i < 500; i++) {
            x.pull(0);
        }
        Due.is("count(4)", x.count(4), 500);
        Due.is("count(8)", x.count(8), 40);
        Due.is("court(1)", x.court(1), 500);
        Due.is("string(0, 4)", x.string(0, 4), 500);
        Due.is("puppet(0, 1)", x.puppet(0, 1), 0);
    }

    @Says("7 bytes on the tape, 8 things that can be undone, 9 TOLD ones, 10 SLOTS that hold something,")
    static void p37_count_whatIsKept() {
        PuppetCourt x = Due.court(CLOTH);
        Due.type(x, "seed 7");
        x.pass();
        x.open();
        x.tell(0, 1, 1);
        x.tell(0, 1, 1);
        x.tell(0, 1, 1);
        x.hold(2);
        int[] want = {6, 2, 3, 1};
        for (int i = 0; i < want.length; i++) {
            Due.is("count(" + (7 + i) + ")", x.count(7 + i), want[i]);
        }
    }

    @Says("11 cases won by the plaintiff, 12 by the defendant,")
    static void p37_count_casesWon() {
        PuppetCourt x = Due.court("puppet p 3 0; string a p 2 1 0; string b p 2 1 1; verdict = 1 + nods;");
        for (int i = 0; i < 20; i++) {
            x.pull(i % 4 == 0 ? 0 : 1);
            x.open();
        }
        Due.is("count(11)", x.count(11), 5);
        Due.is("count(12)", x.count(12), 15);
        x.undo();
        x.undo();
        Due.is("count(12) undone", x.count(12), 14);
    }

    @Says("13 STRINGS that may be pulled now (bits),")
    static void p37_count_bitsOfSeven() {
        PuppetCourt x = Due.court("puppet p 9 0; string a p 0 0 0; string b p 1 0 0; string c p 2 0 0; string d p 2 1 0;"
            + "string e p 0 0 0; string f p 1 0 0; string g p 2 0 0; order = if which < 4 then 1 else which - 4; verdict = pulls / 2;");
        // side 0: a, c, g; not e by the law
        Due.is("side 0", x.count(13), 1 + 4 + 64);
        x.pass();
        Due.is("side 1", x.count(13), 2 + 4 + 32 + 64);
        x.pass();
        Due.is("over", x.count(13), 0);
    }

    @Says("14: 1 the case is over, else 0.")
    static void p37_count_theCaseIsOver() {
        for (int verdict = 0; verdict < 3; verdict++) {
            PuppetCourt x = Due.court("verdict = " + verdict + ";");
            Due.is("count(14)", x.count(14), 0);
            x.pass();
            Due.is("count(14) then", x.count(14), verdict == 0 ? 0 : 1);
            x.open();
            Due.is("count(14) of a new case", x.count(14), 0);
        }
    }

    @Says("NONE for others.")
    static void p37_count_noSuchWhat() {
        PuppetCourt x = Due.court(CLOTH);
        for (int bad : new int[] {15, 16, -1, MAX, MIN}) {
            Due.is("count(" + bad + ")", x.count(bad), -1);
        }
    }
}
