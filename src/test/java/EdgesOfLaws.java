/** Boundary cases of the laws: what they tell, by what, seen by may, pull and jury. */
final class EdgesOfLaws {
    private EdgesOfLaws() {
    }

    /** What a law tells, 0 .. 10, by way of the votes of one child. */
    private static void tells(String law, int want) {
        tellsFirst(Due.court("child 3; votes = " + law + ";"), law, want);
    }

    private static void tellsFirst(PuppetCourt x, String law, int want) {
        int below = x.jury(1, true);
        Due.is("law " + law, below == 0 ? -1 : x.jury(1, false) * 10 / below, want);
    }

    /** Whether an E tells just this number, which may be below 0 or great. */
    private static void number(String sum, String want) {
        tells("if " + sum + " < " + want + " then 1 else if " + want + " < " + sum + " then 2 else 3", 3);
    }

    // ---- what they tell

    @Says("LAWS: the E of the first if that holds (one less than the other), else the last one;")
    static void p24_jury_ofAlikeOnesNoIfHolds() {
        tells("if 2 < 2 then 3 else 4", 4);
        tells("if 0 < 0 then 3 else 4", 4);
        tells("if 1 < 2 then 3 else 4", 3);
        tells("if 2 < 1 then 3 else 4", 4);
        tells("if 0 - 1 < 0 then 3 else 4", 3);
        tells("if 0 < 0 - 1 then 3 else 4", 4);
    }

    @Says("LAWS: the E of the first if that holds (one less than the other), else the last one;")
    static void p24_jury_ofFourIfsTheFirstThatHolds() {
        for (int first = 0; first < 5; first++) {
            StringBuilder law = new StringBuilder();
            for (int i = 0; i < 4; i++) {
                law.append("if ").append(first).append(" < ").append(i + 1).append(" then ").append(i + 1).append(" else ");
            }
            tells(law + "9", first < 4 ? first + 1 : 9);
        }
    }

    @Says("ints of 32 bits that wrap,")
    static void p24_jury_wrapsAboveTheGreatest() {
        String most = "(8192*8192*32-1)";
        number(most, "(0-8192*8192*32-1)");
        tells("if " + most + " < 0 then 3 else 4", 4);
        tells("if " + most + " + 1 < 0 then 3 else 4", 3);
        tells("if " + most + " - (0-1) < 0 then 3 else 4", 3);
    }

    @Says("ints of 32 bits that wrap,")
    static void p24_jury_wrapsBelowTheLeast() {
        String least = "(8192*8192*32)";
        tells("if " + least + " < 0 then 3 else 4", 3);
        tells("if " + least + " - 1 < 0 then 3 else 4", 4);
        number("0 - " + least, least);
    }

    @Says("ints of 32 bits that wrap,")
    static void p24_jury_wrapsInProducts() {
        number("8192*8192*64", "0");
        number("8192*8192*64 + 7", "7");
        // 999700029999 less 233 times 4294967296
        number("9999*9999*9999 + 1027*1000*1000 + 349*1000 + 969", "0");
    }

    @Says("ints of 32 bits that wrap,")
    static void p24_jury_theLeastByMinusOne() {
        number("8192*8192*32 / (0-1)", "8192*8192*32");
    }

    @Says("/ rounded towards 0;")
    static void p24_jury_roundsTowards0() {
        number("7/2", "3");
        number("(0-7)/2", "0-3");
        number("7/(0-2)", "0-3");
        number("(0-7)/(0-2)", "3");
        number("(0-1)/2", "0");
        number("1/2", "0");
    }

    @Says("a LAW in which something that is looked at is divided by 0 is 0.")
    static void p24_jury_dividedBy0() {
        tells("1/0", 0);
        tells("0/0", 0);
        tells("9 + 1/0", 0);
        tells("9 + 0*(1/0)", 0);
        tells("9 + 1/(2-2)", 0);
        tells("5/(1/2)", 0);
        tells("9 - 0/1", 9);
    }

    @Says("a LAW in which something that is looked at is divided by 0 is 0.")
    static void p24_jury_dividedBy0InAnIf() {
        tells("if 1/0 < 1 then 3 else 4", 0);
        tells("if 1 < 1/0 then 3 else 4", 0);
        tells("if 2 < 1 then 3 else if 1/0 < 1 then 4 else 5", 0);
        tells("if 1 < 2 then 1/0 else 4", 0);
        tells("if 2 < 1 then 3 else 1/0", 0);
    }

    @Says("a LAW in which something that is looked at is divided by 0 is 0.")
    static void p24_jury_dividedBy0WhereNoneLooks() {
        tells("if 1 < 2 then 3 else 1/0", 3);
        tells("if 2 < 1 then 1/0 else 4", 4);
        tells("if 1 < 2 then 3 else if 1/0 < 1 then 4 else 5", 3);
    }

    @Says("a LAW in which something that is looked at is divided by 0 is 0.")
    static void p09_may_orderDividedBy0() {
        PuppetCourt x = Due.court("puppet p 1 1; string s p 2 0 0; order = 5 + 1/pulls;");
        Due.is("may(0) ahead", x.may(0), 0);
        x.pass();
        Due.is("may(0) then", x.may(0), 1);
    }

    @Says("a LAW in which something that is looked at is divided by 0 is 0.")
    static void p10_pull_verdictDividedBy0() {
        PuppetCourt x = Due.court("puppet p 1 1; string s p 2 0 0; verdict = 1 + 1/(pulls - 1);");
        Due.is("pull(0)", x.pull(0), 0);
        Due.is("pull(0) then", x.pull(0), 2);
    }

    // ---- by what they tell it

    @Says("apart: X of the defendant less that of the plaintiff (of one that there is not: 0);")
    static void p08_court_apartOfThoseThatAreNot() {
        Due.is("of none", Due.court("").court(2), 0);
        Due.is("of a plaintiff", Due.court("puppet p 4 0;").court(2), -4);
        Due.is("of both", Due.court("puppet p 4 0; puppet d 9 0;").court(2), 5);
        Due.is("9 less 0", Due.court("puppet p 0 0; puppet d 9 0; puppet j 5 0;").court(2), 9);
        Due.is("0 less 9", Due.court("puppet p 9 0; puppet d 0 0; puppet j 5 0;").court(2), -9);
        tellsFirst(Due.court("puppet p 4 0; child 1; votes = 9 + apart;"), "apart of a plaintiff", 5);
    }

    @Says("TANGLES: pairs of PUPPETS of which the one with the lesser number is further to the right (greater X);")
    static void p08_court_tanglesOfAlikeOnes() {
        Due.is("alike", Due.court("puppet p 4 0; puppet d 4 0; puppet j 4 0;").court(3), 0);
        Due.is("in order", Due.court("puppet p 4 0; puppet d 5 0; puppet j 6 0;").court(3), 0);
        Due.is("one by one", Due.court("puppet p 5 0; puppet d 4 0; puppet j 5 0;").court(3), 1);
        Due.is("one alone", Due.court("puppet p 9 0;").court(3), 0);
    }

    @Says("TANGLES: pairs of PUPPETS of which the one with the lesser number is further to the right (greater X);")
    static void p08_court_allPairsTangle() {
        String five = "puppet a 9 0; puppet b 7 0; puppet c 5 0; puppet d 3 0; puppet e 0 0;";
        Due.is("five", Due.court(five).court(3), 10);
        tellsFirst(Due.court(five + "child 1; votes = tangles;"), "tangles", 10);
    }

    @Says("pulls: how many there were in the case;")
    static void p08_court_pullsOfTheCaseAlone() {
        PuppetCourt x = Due.court("puppet p 1 0; string s p 2 0 0; child 1; votes = pulls;");
        tellsFirst(x, "pulls at first", 0);
        x.pull(0);
        x.pass();
        tellsFirst(x, "pulls with a pass", 2);
        x.open();
        tellsFirst(x, "pulls of a new case", 0);
        Due.is("court(1)", x.court(1), 0);
        x.pull(0);
        Due.is("court(1) then", x.court(1), 1);
    }

    @Says("nods: how many heads are up;")
    static void p08_court_nodsOfAllAndOfNone() {
        PuppetCourt x = Due.court("puppet a 1 0; puppet b 1 0; puppet c 1 0; puppet d 1 0; puppet e 1 0; string s a 2 0 1;"
            + "string t b 2 0 3; string u c 2 0 1; string v d 2 0 1; string w e 2 0 1; string h a 2 0 2; child 1; votes = nods;");
        x.pull(5);
        Due.is("a hand is no head", x.court(4), 0);
        for (int i = 0; i < 5; i++) {
            x.pull(i);
            Due.is("nods", x.court(4), i + 1);
        }
        tellsFirst(x, "nods", 5);
        for (int i = 0; i < 5; i++) {
            x.pull(i);
        }
        Due.is("down again", x.court(4), 0);
    }

    @Says("hand: 1 if the judge's hand is up, else 0;")
    static void p10_pull_nobodyElsesHandCounts() {
        String text = "puppet p 1 0; puppet d 1 0; puppet j 1 0; puppet k 1 0; string a p 2 0 3; string b d 2 0 3;"
            + "string c k 2 0 3; string e j 2 0 1; string f j 2 0 2; verdict = hand;";
        PuppetCourt x = Due.court(text);
        for (int i = 0; i < 4; i++) {
            Due.is("pull(" + i + ")", x.pull(i), 0);
        }
        Due.is("the judge's", x.pull(4), 1);
        x = Due.court("puppet p 1 0; puppet d 1 0; string a p 2 0 3; string b d 2 0 3; verdict = hand;");
        Due.is("without a judge", x.pull(0) + x.pull(1), 0);
    }

    @Says("hand: 1 if the judge's hand is up, else 0;")
    static void p10_pull_theJudgesHandDownAgain() {
        PuppetCourt x = Due.court("puppet p 1 0; puppet d 1 0; puppet j 1 0; string f j 2 0 2;"
            + "verdict = if pulls < 2 then 0 else 1 + hand;");
        x.pull(0);
        Due.is("up and down", x.pull(0), 1);
    }

    @Says("side: whose turn it is (0, 1);")
    static void p09_may_sideWhoseTurnItIs() {
        PuppetCourt x = Due.court("puppet p 1 0; string s p 2 0 0; order = side;");
        Due.is("side 0", x.may(0), 0);
        x.pass();
        Due.is("side 1", x.may(0), 1);
        x.pull(0);
        Due.is("side 0 again", x.may(0), 0);
    }

    @Says("which: the STRING's number (of VOTES: the CHILD's), at: X of its PUPPET; seat: the CHILD's;")
    static void p09_may_whichAndAt() {
        PuppetCourt x = Due.court("puppet p 0 0; puppet d 6 0; string a d 2 0 0; string b p 2 0 0; string c d 2 1 0;"
            + "order = which * at;");
        Due.is("0 * 6, 1 * 0, 2 * 6", x.count(13), 4);
    }

    @Says("which: the STRING's number (of VOTES: the CHILD's), at: X of its PUPPET; seat: the CHILD's;")
    static void p24_jury_whichAndSeatOfAChild() {
        PuppetCourt x = Due.court("child 0; child 9; child 5; votes = 10 * which + seat;");
        // 0, 19 and 25 of ten: two of them
        Due.is("two", x.jury(2, false), 1);
        Due.is("two, below", x.jury(2, true), 1);
        x = Due.court("child 9; child 0; votes = seat;");
        Due.is("by the seat", x.jury(1, false), 9);
    }

    @Says("what is not told here is 0 for a LAW: ORDER has all but seat,")
    static void p09_may_orderHasNoSeat() {
        PuppetCourt x = Due.court("puppet p 1 0; string s p 2 0 0; child 9; order = seat;");
        x.jury(1, false);
        Due.is("may(0)", x.may(0), 0);
        x = Due.court("puppet p 1 0; string s p 2 0 0; child 9; order = 1 - seat;");
        x.jury(1, false);
        Due.is("may(0) by 1 - seat", x.may(0), 1);
    }

    @Says("what is not told here is 0 for a LAW: ORDER has all but seat,")
    static void p09_may_orderHasAllElse() {
        // behind: pass, nod and hand of the judge, pass: apart 5, tangles 1, pulls 3, nods 1, side 1, hand 1
        String[] vars = {"apart", "tangles", "pulls", "nods", "side", "hand", "which", "at"};
        int[] values = {5, 1, 3, 1, 1, 1, 2, 4};
        for (int i = 0; i < vars.length; i++) {
            PuppetCourt x = Due.court("puppet p 2 0; puppet d 7 0; puppet j 4 0; string a d 1 1 0; string b j 2 0 3;"
                + "string c j 2 1 0; order = if pulls < 3 then 1 else if " + vars[i] + " < " + values[i]
                + " then 0 else if " + values[i] + " < " + vars[i] + " then 0 else 1;");
            x.pass();
            x.pull(1);
            x.pass();
            Due.is("may(2) by " + vars[i], x.may(2), 1);
        }
    }

    @Says("VERDICT apart, tangles, pulls, nods, hand,")
    static void p10_pull_verdictHasNeitherSideNorSeatNorWhichNorAt() {
        PuppetCourt x = Due.court("puppet p 5 0; string r p 2 0 0; string s p 2 0 0; child 7; verdict = side + seat + which + at;");
        x.jury(1, false);
        Due.is("may(1)", x.may(1), 1);
        Due.is("pull(1)", x.pull(1), 0);
        Due.is("pull(1) of the other", x.pull(1), 0);
    }

    @Says("VERDICT apart, tangles, pulls, nods, hand,")
    static void p10_pull_verdictHasTheseFive() {
        // behind the pull: apart 5, tangles 1 (the defendant is right of the judge), pulls 1, nods 1, hand 1
        String[] vars = {"apart", "tangles", "pulls", "nods", "hand"};
        int[] values = {5, 1, 1, 1, 1};
        for (int i = 0; i < vars.length; i++) {
            PuppetCourt x = Due.court("puppet p 2 0; puppet d 7 0; puppet j 4 0; string a j 2 1 3; verdict = 1 + " + vars[i]
                + " - " + values[i] + ";");
            Due.is("pull(0) by " + vars[i], x.pull(0), 1);
        }
    }

    @Says("VOTES these, and seat, which.")
    static void p24_jury_votesHaveNeitherSideNorAt() {
        PuppetCourt x = Due.court("puppet p 5 0; string s p 2 0 0; child 3; votes = side + at;");
        x.pass();
        x.may(0);
        tellsFirst(x, "side + at", 0);
    }

    @Says("VOTES these, and seat, which.")
    static void p24_jury_votesHaveTheseSeven() {
        String[] vars = {"apart", "tangles", "pulls", "nods", "hand", "seat"};
        int[] values = {5, 1, 1, 1, 1, 3};
        for (int i = 0; i < vars.length; i++) {
            PuppetCourt x = Due.court("puppet p 2 0; puppet d 7 0; puppet j 4 0; string a j 2 1 3; child 3; votes = " + vars[i]
                + ";");
            x.pull(0);
            tellsFirst(x, vars[i], values[i]);
        }
    }
}
