/** Boundary cases of promises 22 to 29: juries, precedents, paint, storms by seeds. */
final class EdgesOfJuries {
    private static final int MAX = Integer.MAX_VALUE;
    private static final int MIN = Integer.MIN_VALUE;
    private static final String SEVEN = "child 0;child 1;child 2;child 3;child 4;child 5;child 6;";
    /** The defendant goes to either side of the plaintiff; a verdict by its head. */
    private static final String KEEPER = "puppet p 5 0; puppet d 5 0; string r d 2 1 0; string l d 2 - 1 0; string u d 2 1 1;"
        + "string m d 2 - 1 1; string n d 2 0 0; string o d 2 0 1; verdict = 1 + nods;";

    private EdgesOfJuries() {
    }

    private static void share(String what, PuppetCourt x, int m, int above, int below) {
        Due.is(what + ": jury(" + m + ")", x.jury(m, false), above);
        Due.is(what + ": jury(" + m + ") below", x.jury(m, true), below);
    }

    private static void half(String what, PuppetCourt x, int above, int below) {
        Due.is(what + ": half", x.half(false), above);
        Due.is(what + ": half below", x.half(true), below);
    }

    // ---- promise 22

    @Says({"MOST LIKELY: the m, of alike ones the least;", "MOST LIKELY."})
    static void p22_verdicts_ofAlikeOnesTheLeast() {
        Due.is("1/2 and 1/2", Due.court("child 1;").verdicts(), 0);
        Due.is("1/4, 1/2, 1/4", Due.court("child 1; child 1;").verdicts(), 1);
        Due.is("1/8, 3/8, 3/8, 1/8", Due.court("child 1; child 1; child 1;").verdicts(), 1);
        Due.is("seven at half", Due.court(SEVEN).verdicts(), 3);
    }

    @Says("MOST LIKELY: the m, of alike ones the least;")
    static void p22_verdicts_noneAndAll() {
        Due.is("no children", Due.court("").verdicts(), 0);
        Due.is("of a new object", new PuppetCourt().verdicts(), 0);
        Due.is("all of seven", Due.court(SEVEN + "votes = 10;").verdicts(), 7);
        Due.is("none of seven", Due.court(SEVEN + "votes = 0;").verdicts(), 0);
        Due.is("nine of ten, each", Due.court(SEVEN + "votes = 9;").verdicts(), 7);
    }

    // ---- promise 23

    @Says({"HALF: how likely more than half of them do.", "HALF."})
    static void p23_half_justHalfIsNotMore() {
        half("two of two", Due.court("child 1; child 1;"), 1, 4);
        half("three or four of four", Due.court("child 1; child 1; child 1; child 1;"), 5, 16);
        half("one of two, sure", Due.court("child 0; child 1; votes = 10 * which;"), 0, 1);
    }

    @Says("HALF: how likely more than half of them do.")
    static void p23_half_ofAnOddNumber() {
        half("one of one", Due.court("child 1; votes = 3;"), 3, 10);
        half("two or three of three", Due.court("child 1; child 1; child 1;"), 1, 2);
        half("four or more of seven", Due.court(SEVEN), 1, 2);
        // 35 * 2401 * 27 + 21 * 16807 * 9 + 7 * 117649 * 3 + 823543 of ten millions
        half("seven by seven of ten", Due.court(SEVEN + "votes = 7;"), 218491, 250000);
    }

    @Says("HALF: how likely more than half of them do.")
    static void p23_half_ofNoneAndOfAll() {
        half("no children", Due.court(""), 0, 1);
        half("all vote so", Due.court(SEVEN + "votes = 10;"), 1, 1);
        half("none votes so", Due.court(SEVEN + "votes = 0;"), 0, 1);
    }

    // ---- promise 24

    @Says({"JURY: each CHILD votes for the plaintiff in VOTES, held to 0 .. 10, of ten:", "JURY (m 0 .. as many as there are CHILDREN);"})
    static void p24_jury_votesHeldTo0And10() {
        String[] laws = {"0", "0 - 1", "0 - 9999", "8192*8192*32", "10", "11", "9999", "8192*8192*32 - 1", "1", "9"};
        int[] above = {0, 0, 0, 0, 1, 1, 1, 1, 1, 9};
        int[] below = {1, 1, 1, 1, 1, 1, 1, 1, 10, 10};
        for (int i = 0; i < laws.length; i++) {
            share("votes = " + laws[i], Due.court("child 1; votes = " + laws[i] + ";"), 1, above[i], below[i]);
        }
    }

    @Says("how likely just m of them do, as a fraction that cannot be lessened;")
    static void p24_jury_aFractionThatCannotBeLessened() {
        share("2 of ten", Due.court("child 1; votes = 2;"), 1, 1, 5);
        share("2 of ten, not", Due.court("child 1; votes = 2;"), 0, 4, 5);
        share("5 of ten", Due.court("child 1;"), 1, 1, 2);
        share("three by 5 of ten", Due.court("child 1; child 1; child 1;"), 2, 3, 8);
    }

    @Says("how likely just m of them do, as a fraction that cannot be lessened;")
    static void p24_jury_0And1AsFractions() {
        PuppetCourt x = Due.court("child 1; child 1; votes = 10;");
        share("sure", x, 2, 1, 1);
        share("never", x, 1, 0, 1);
        share("never", x, 0, 0, 1);
    }

    @Says("how likely just m of them do, as a fraction that cannot be lessened;")
    static void p24_jury_sevenOfSeven() {
        PuppetCourt x = Due.court(SEVEN + "votes = 9;");
        share("all", x, 7, 4782969, 10000000);
        share("none", x, 0, 1, 10000000);
        // 7 * 9^6 of ten millions
        share("six", x, 6, 3720087, 10000000);
    }

    @Says("JURY (m 0 .. as many as there are CHILDREN);")
    static void p24_jury_noChildren() {
        PuppetCourt x = new PuppetCourt();
        share("of a new object", x, 0, 1, 1);
        share("of a new object", x, 1, -1, -1);
    }

    @Says("NONE: no such m.")
    static void p24_jury_noSuchM() {
        PuppetCourt x = Due.court("child 1; child 2;");
        for (int bad : new int[] {3, 7, 8, -1, MAX, MIN}) {
            share("two children", x, bad, -1, -1);
        }
        share("seven children", Due.court(SEVEN), 8, -1, -1);
    }

    // ---- promise 25

    @Says("How many PRECEDENTS (i NONE),")
    static void p25_precedent_howMany() {
        PuppetCourt x = Due.court(KEEPER);
        for (int what : new int[] {0, 1, 2, 3, -1, MAX, MIN}) {
            Due.is("of none, " + what, x.precedent(-1, what), 0);
        }
        x.pull(0);
        Due.is("of one", x.precedent(-1, 0), 1);
        Due.is("of one, 3", x.precedent(-1, 3), 1);
    }

    @Says("else of the i-th (the oldest is 0) what 0 apart, 1 TANGLES, 2 the VERDICT;")
    static void p25_precedent_theOldestIs0() {
        PuppetCourt x = Due.court(KEEPER);
        int[][] due = {{1, 0, 1}, {-1, 1, 1}, {1, 0, 2}, {-1, 1, 2}, {0, 0, 1}, {0, 0, 2}};
        for (int i = 0; i < 6; i++) {
            x.pull(i);
            x.open();
        }
        for (int i = 0; i < 6; i++) {
            for (int what = 0; what < 3; what++) {
                Due.is("precedent(" + i + ", " + what + ")", x.precedent(i, what), due[i][what]);
            }
        }
    }

    @Says("12 at most, the oldest goes.")
    static void p25_precedent_aThirteenth() {
        PuppetCourt x = Due.court(KEEPER);
        for (int i = 0; i < 12; i++) {
            x.pull(i == 0 ? 3 : i == 1 ? 2 : 4);
            x.open();
        }
        Due.is("twelve", x.precedent(-1, 0), 12);
        Due.is("the oldest", x.precedent(0, 0), -1);
        x.pull(5);
        Due.is("still twelve", x.precedent(-1, 0), 12);
        Due.is("the oldest now", x.precedent(0, 0), 1);
        Due.is("the latest", x.precedent(11, 2), 2);
        Due.is("the one ahead of it", x.precedent(10, 2), 1);
        Due.is("precedent(12, 0)", x.precedent(12, 0), -1000);
        Due.is("all that were won", x.count(11) + x.count(12), 13);
    }

    @Says("12 at most, the oldest goes.")
    static void p25_precedent_manyMore() {
        PuppetCourt x = Due.court(KEEPER);
        for (int i = 0; i < 40; i++) {
            x.pull(i % 6);
            x.open();
        }
        int[] apart = {1, -1, 1, -1, 0, 0};
        for (int i = 0; i < 12; i++) {
            int of = (28 + i) % 6;
            Due.is("apart of " + i, x.precedent(i, 0), apart[of]);
            Due.is("TANGLES of " + i, x.precedent(i, 1), apart[of] < 0 ? 1 : 0);
            Due.is("VERDICT of " + i, x.precedent(i, 2), of == 2 || of == 3 || of == 5 ? 2 : 1);
        }
    }

    @Says("-1000: no such ones.")
    static void p25_precedent_noSuchOnes() {
        PuppetCourt x = Due.court(KEEPER);
        Due.is("of none", x.precedent(0, 0), -1000);
        x.pull(0);
        for (int bad : new int[] {1, 11, 12, -2, MAX, MIN}) {
            Due.is("precedent(" + bad + ", 0)", x.precedent(bad, 0), -1000);
        }
        for (int bad : new int[] {3, -1, MAX, MIN}) {
            Due.is("precedent(0, " + bad + ")", x.precedent(0, bad), -1000);
        }
        x.undo();
        Due.is("undone", x.precedent(0, 0), -1000);
    }

    // ---- promise 26

    private static void nearest(String what, PuppetCourt x, int which, int far, int verdict) {
        Due.is(what + ": which", x.nearest(0), which);
        Due.is(what + ": how far", x.nearest(1), far);
        Due.is(what + ": its VERDICT", x.nearest(2), verdict);
    }

    private static final String NEAREST = "NEAREST: the PRECEDENT least apart: by how much its apart and TANGLES differ from those now, added;";

    @Says({NEAREST, "NEAREST: what 0 which, 1 how far, 2 its VERDICT;"})
    static void p26_nearest_bothDifferencesAdded() {
        PuppetCourt x = Due.court(KEEPER);
        x.pull(1);
        // 0 apart, no TANGLES now; the one kept is -1 apart with one TANGLE
        x.open();
        nearest("-1 and 1", x, 0, 2, 1);
        x.pull(2);
        nearest("of the case itself", x, 1, 0, 2);
        x.open();
        nearest("1 and 0 is nearer", x, 1, 1, 2);
    }

    @Says(NEAREST)
    static void p26_nearest_fromTanglesNow() {
        PuppetCourt x = Due.court("puppet p 5 0; puppet d 5 0; puppet j 5 0; string a p 2 1 0; string b d 2 1 0; string c j 2 0 0;"
            + "verdict = if pulls < 2 then 0 else 1;");
        x.pull(0);
        x.pull(2);
        x.open();
        x.pull(1);
        x.pull(2);
        // kept: -1 apart with two TANGLES, 1 apart with one
        x.open();
        nearest("0 and 0", x, 1, 2, 1);
        x.pull(0);
        nearest("-1 and 2", x, 0, 0, 1);
        x.pull(1);
        nearest("0 and 2", x, 2, 0, 1);
        x.undo();
        x.undo();
        x.pull(1);
        nearest("1 and 1", x, 1, 0, 1);
    }

    @Says({"of alike ones the latest; its VERDICT.", NEAREST})
    static void p26_nearest_ofAlikeOnesTheLatest() {
        PuppetCourt x = Due.court(KEEPER);
        for (int string : new int[] {4, 5, 0, 2, 0}) {
            x.pull(string);
            x.open();
        }
        nearest("two of 0", x, 1, 0, 2);
        x.pull(4);
        nearest("three of 0", x, 5, 0, 1);
        x.undo();
        x.undo();
        Due.is("apart", x.court(2), 1);
        nearest("three of 1", x, 4, 0, 1);
    }

    @Says("-2: there are none;")
    static void p26_nearest_thereAreNone() {
        PuppetCourt x = Due.court(KEEPER);
        nearest("none", x, -2, -2, -2);
        x.pull(0);
        x.undo();
        nearest("undone", x, -2, -2, -2);
    }

    @Says("NONE for others.")
    static void p26_nearest_noSuchWhat() {
        PuppetCourt x = Due.court(KEEPER);
        for (int times = 0; times < 2; times++) {
            for (int bad : new int[] {3, -1, MAX, MIN}) {
                Due.is("nearest(" + bad + ")", x.nearest(bad), -1);
            }
            x.pull(0);
        }
    }

    // ---- promise 27

    @Says({"CLASHES: pairs of PRECEDENTS with one apart and TANGLES, and two VERDICTS.", "CLASHES."})
    static void p27_clashes_eachPairOnce() {
        PuppetCourt x = Due.court(KEEPER);
        Due.is("of none", x.clashes(), 0);
        int[] pulls = {4, 4, 5, 5, 5, 0, 2, 1};
        int[] want = {0, 0, 2, 4, 6, 6, 7, 7};
        for (int i = 0; i < pulls.length; i++) {
            x.pull(pulls[i]);
            Due.is("behind " + i, x.clashes(), want[i]);
            x.open();
        }
    }

    @Says("CLASHES: pairs of PRECEDENTS with one apart and TANGLES, and two VERDICTS.")
    static void p27_clashes_oneApartButOtherTangles() {
        // the judge goes ahead of the others: apart is the same, TANGLES are not
        PuppetCourt x = Due.court("puppet p 5 0; puppet d 5 0; puppet j 5 0; string a j 2 - 1 1; string b j 2 1 0; string c j 2 0 0;"
            + "verdict = 1 + nods;");
        for (int i = 0; i < 3; i++) {
            x.pull(i);
            Due.is("TANGLES", x.precedent(i, 1), i == 0 ? 2 : 0);
            x.open();
        }
        Due.is("clashes()", x.clashes(), 0);
    }

    @Says("CLASHES: pairs of PRECEDENTS with one apart and TANGLES, and two VERDICTS.")
    static void p27_clashes_ofTwelve() {
        PuppetCourt x = Due.court(KEEPER);
        for (int i = 0; i < 20; i++) {
            x.pull(4 + i % 2);
            x.open();
        }
        Due.is("six by six", x.clashes(), 36);
    }

    // ---- promise 28

    private static void paint(String text, int sum, int... puppets) {
        PuppetCourt x = Due.court(text);
        Due.is(text + ": sum", x.paint(-1), sum);
        for (int part = 0; part < 3; part++) {
            Due.is(text + ": part " + part, x.paint(part), puppets[part]);
        }
    }

    private static final String PAINT = "PAINT: PUPPETS 0 .. 2's parts want PAINT 9, 5, 1: another PUPPET for each so that all differences of PAINT, together, are least;";

    @Says({PAINT, "PAINT: the sum (part NONE), else the PUPPET for a part 0 .. 2;"})
    static void p28_paint_theLeastTogether() {
        paint("puppet a 0 9; puppet b 0 5; puppet c 0 1;", 0, 0, 1, 2);
        paint("puppet a 0 1; puppet b 0 9; puppet c 0 5;", 0, 1, 2, 0);
        paint("puppet a 0 0; puppet b 0 1; puppet c 0 5; puppet d 0 9; puppet e 0 8;", 0, 3, 2, 1);
        paint("puppet a 0 6; puppet b 0 7; puppet c 0 1;", 3, 1, 0, 2);
        // 2 is nearer to 5 than 9 is, but then 9 were left for 1
        paint("puppet a 0 2; puppet b 0 9; puppet c 0 9;", 5, 1, 2, 0);
    }

    @Says(PAINT)
    static void p28_paint_anotherForEach() {
        paint("puppet a 0 5; puppet b 0 0; puppet c 0 0;", 10, 0, 1, 2);
        paint("puppet a 0 9; puppet b 0 9; puppet c 0 9;", 12, 0, 1, 2);
    }

    @Says("of alike ones the first by the plaintiff's, then the defendant's.")
    static void p28_paint_ofAlikeOnesTheFirst() {
        paint("puppet a 0 3; puppet b 0 3; puppet c 0 3; puppet d 0 3; puppet e 0 3;", 10, 0, 1, 2);
        // 9 is wanted by the first; 4 and 6 are alike far from 5, and 1 is the third's
        paint("puppet a 0 1; puppet b 0 9; puppet c 0 9; puppet d 0 6; puppet e 0 4;", 1, 1, 3, 0);
        paint("puppet a 0 9; puppet b 0 5; puppet c 0 5; puppet d 0 1; puppet e 0 1;", 0, 0, 1, 3);
    }

    @Says("-2: there are less than 3 PUPPETS;")
    static void p28_paint_lessThanThree() {
        String[] texts = {"", "puppet a 0 9;", "puppet a 0 9; puppet b 0 5;"};
        for (String text : texts) {
            paint(text, -2, -2, -2, -2);
        }
    }

    @Says("NONE for others.")
    static void p28_paint_noSuchPart() {
        String three = "puppet a 0 9; puppet b 0 5; puppet c 0 1;";
        for (String text : new String[] {"", three}) {
            for (int bad : new int[] {3, -2, 4, MAX, MIN}) {
                Due.is("paint(" + bad + ")", Due.court(text).paint(bad), -1);
            }
        }
    }

    // ---- promise 29

    private static final String STORMS = "STORMS by s SEEDS (1 .. 20) from the text's SEED on: in how many of them a PULL of a STRING now leads to a VERDICT v.";
    /** No verdict, 1 and 2 by which string is pulled, and a fourth that cannot be. */
    private static final String WEATHER = "puppet p 1 0; puppet d 5 0; string a p 0 0 0; string b p 1 1 0; string c d 2 - 2 0;"
        + "string e d 2 9 0; verdict = if apart < 3 then 2 else 4 - apart;";

    /** What becomes of the first pull of string 0 by WEATHER. */
    private static int weather(int storm, int seed, int pulls) {
        int which = Lot.of(100, seed, 4 * pulls) < storm ? Lot.of(4, seed, 4 * pulls + 1) : 0;
        return which == 1 ? 1 : which == 2 ? 2 : 0;
    }

    @Says({STORMS, "STORMS (v 0 .. 2);"})
    static void p29_storms_oneToTwentySeeds() {
        for (int storm = 0; storm <= 100; storm += 20) {
            PuppetCourt x = Due.court(WEATHER + "seed 600; storm " + storm + ";");
            int[] due = new int[3];
            for (int s = 1; s <= 20; s++) {
                due[weather(storm, 600 + s - 1, 0)]++;
                for (int v = 0; v < 3; v++) {
                    Due.is("storms(0, " + v + ", " + s + ") by " + storm, x.storms(0, v, s), due[v]);
                }
            }
        }
    }

    @Says(STORMS)
    static void p29_storms_behindOtherPulls() {
        PuppetCourt x = Due.court(WEATHER + "seed 33; storm 70;");
        x.pass();
        x.pass();
        x.open();
        int[] due = new int[3];
        for (int i = 0; i < 20; i++) {
            due[weather(70, 33 + i, 2)]++;
        }
        for (int v = 0; v < 3; v++) {
            Due.is("storms(0, " + v + ", 20)", x.storms(0, v, 20), due[v]);
        }
    }

    @Says(STORMS)
    static void p29_storms_beyondSeed9999() {
        PuppetCourt x = Due.court(WEATHER + "seed 9999; storm 70;");
        int[] due = new int[3];
        for (int i = 0; i < 20; i++) {
            due[weather(70, 9999 + i, 0)]++;
        }
        for (int v = 0; v < 3; v++) {
            Due.is("storms(0, " + v + ", 20)", x.storms(0, v, 20), due[v]);
        }
    }

    @Says(STORMS)
    static void p29_storms_nothingHappens() {
        PuppetCourt x = Due.court(WEATHER + "seed 9; storm 100;");
        String before = Due.state(x);
        x.storms(0, 1, 20);
        Due.same("behind it", Due.state(x), before);
        Due.is("undo()", x.undo(), false);
    }

    @Says(STORMS)
    static void p29_storms_asThePullItself() {
        for (int seed = 0; seed < 40; seed++) {
            PuppetCourt x = Due.court(WEATHER + "seed " + seed + "; storm 60;");
            int was = x.storms(0, 0, 1) == 1 ? 0 : x.storms(0, 1, 1) == 1 ? 1 : 2;
            Due.is("pull(0) by seed " + seed, x.pull(0), was);
        }
    }

    @Says(STORMS)
    static void p29_storms_byTheLawBehindThePull() {
        PuppetCourt x = Due.court("puppet p 1 0; string a p 2 0 0; verdict = if pulls < 3 then 0 else pulls - 1;");
        int[] want = {0, 0, 2};
        for (int pulls = 0; pulls < 3; pulls++) {
            for (int v = 0; v < 3; v++) {
                Due.is("storms(0, " + v + ", 20) behind " + pulls, x.storms(0, v, 20), want[pulls] == v ? 20 : 0);
            }
            Due.is("pull(0)", x.pull(0), want[pulls]);
        }
    }

    @Says("-2: it may not be pulled;")
    static void p29_storms_mayNotBePulled() {
        PuppetCourt x = Due.court(WEATHER + "storm 100;");
        Due.is("not his", x.storms(1, 0, 1), -2);
        Due.is("beyond X", x.storms(3, 0, 1), -2);
        x = Due.court(WEATHER + "order = 1 - which; storm 100;");
        Due.is("not in order", x.storms(2, 0, 1), -2);
        x = Due.court("puppet p 1 0; string a p 2 0 0; verdict = 1;");
        x.pull(0);
        Due.is("over", x.storms(0, 1, 1), -2);
    }

    @Says("NONE (looked at first): no such ones.")
    static void p29_storms_noSuchOnesLookedAtFirst() {
        PuppetCourt x = Due.court("puppet p 1 0; string a p 2 0 0; string b p 1 0 0; verdict = 1;");
        for (int times = 0; times < 2; times++) {
            // string 0 may be pulled at first, then the case is over; string 1 never may
            for (int string = 0; string < 2; string++) {
                for (int bad : new int[] {3, -1, MAX, MIN}) {
                    Due.is("storms(" + string + ", " + bad + ", 1)", x.storms(string, bad, 1), -1);
                }
                for (int bad : new int[] {0, 21, -1, MAX, MIN}) {
                    Due.is("storms(" + string + ", 1, " + bad + ")", x.storms(string, 1, bad), -1);
                }
            }
            for (int bad : new int[] {2, 7, -1, MAX, MIN}) {
                Due.is("storms(" + bad + ", 1, 1)", x.storms(bad, 1, 1), -1);
            }
            x.pull(0);
        }
    }
}
