import java.util.ArrayList;
import java.util.List;

/** Boundary cases of promises 1 to 5: a new object, the tape, texts and their faults. */
final class EdgesOfTexts {
    private static final int BLANKS = 0x20202020;
    private static final String[] WORDS = {"puppet", "string", "child", "order", "verdict", "votes", "storm", "seed", "if",
        "then", "else", "apart", "tangles", "pulls", "nods", "side", "hand", "seat", "which", "at"};
    private static final String FIVE = "puppet a 1 1;puppet b 1 1;puppet c 1 1;puppet d 1 1;puppet e 1 1;";
    private static final String SEVEN_CHILDREN = "child 0;child 1;child 2;child 3;child 4;child 5;child 6;";
    private static final String FOUR_IFS = "if 1<2 then 3 else if 1<2 then 3 else if 1<2 then 3 else if 1<2 then 3 else ";

    private EdgesOfTexts() {
    }

    private static void fault(String text, int fault, int place) {
        PuppetCourt court = new PuppetCourt();
        String shown = text.length() > 60 ? ".." + text.substring(text.length() - 60) : text;
        Due.is("read of " + shown, Due.read(court, text), fault);
        Due.is("place of " + shown, court.place(), place);
    }

    private static void good(String text) {
        fault(text, 0, -1);
    }

    private static int feedBlanks(PuppetCourt court) {
        return court.feed(BLANKS, BLANKS, BLANKS, BLANKS, BLANKS);
    }

    private static PuppetCourt fed(int times) {
        PuppetCourt court = new PuppetCourt();
        for (int i = 0; i < times; i++) {
            feedBlanks(court);
        }
        return court;
    }

    /** Seven strings of a puppet a, the text of which stands ahead of them. */
    private static String sevenStrings() {
        StringBuilder text = new StringBuilder("puppet a 1 1;");
        for (char c = 'b'; c <= 'h'; c++) {
            text.append("string ").append(c).append(" a 0 1 0;");
        }
        return text.toString();
    }

    // ---- promise 1

    @Says("No PUPPETS,")
    static void p01_new_noPuppets() {
        PuppetCourt x = new PuppetCourt();
        Due.is("count(0)", x.count(0), 0);
        Due.is("puppet(0, 0)", x.puppet(0, 0), -1);
    }

    @Says("no STRINGS;")
    static void p01_new_noStrings() {
        PuppetCourt x = new PuppetCourt();
        Due.is("count(1)", x.count(1), 0);
        Due.is("pull(0)", x.pull(0), -1);
    }

    @Says("a case is open.")
    static void p01_new_aCaseIsOpen() {
        PuppetCourt x = new PuppetCourt();
        Due.is("count(14)", x.count(14), 0);
        Due.is("count(3)", x.count(3), 1);
        Due.is("pass()", x.pass(), 1);
    }

    @Says("a case is open.")
    static void p01_new_allIsAsBehindAnEmptyText() {
        PuppetCourt x = new PuppetCourt();
        for (int what = 0; what < 6; what++) {
            Due.is("court(" + what + ")", x.court(what), 0);
        }
        for (int what = 0; what < 15; what++) {
            Due.is("count(" + what + ")", x.count(what), what == 3 ? 1 : 0);
        }
        Due.same("state", Due.state(x), Due.state(Due.court("")));
        Due.is("undo()", x.undo(), false);
        Due.is("place()", x.place(), -1);
        Due.is("open()", x.open(), 2);
    }

    // ---- promise 2

    @Says("Twenty bytes, the highest of a first, come behind the tape: how many it has.")
    static void p02_feed_theHighestByteOfAFirst() {
        PuppetCourt x = new PuppetCourt();
        // "child 1;" then blanks, then "child 2;" at the end of the twenty
        Due.is("feed", x.feed(0x6368696c, 0x6420313b, BLANKS, 0x6368696c, 0x6420323b), 20);
        Due.is("read()", x.read(), 0);
        Due.is("children", x.count(2), 2);
        // a byte out of place at each of the twenty places
        for (int at = 0; at < 20; at++) {
            int[] w = {BLANKS, BLANKS, BLANKS, BLANKS, BLANKS};
            w[at / 4] ^= 0x1f << 24 - at % 4 * 8;
            x.feed(w[0], w[1], w[2], w[3], w[4]);
            Due.is("read() of byte " + at, x.read(), 1);
            Due.is("place() of byte " + at, x.place(), at);
        }
    }

    @Says("Twenty bytes, the highest of a first, come behind the tape: how many it has.")
    static void p02_feed_comesBehindWhatIsThere() {
        PuppetCourt x = new PuppetCourt();
        Due.type(x, "child");
        Due.is("feed", x.feed(0x20313b20, BLANKS, BLANKS, BLANKS, BLANKS), 25);
        Due.is("read()", x.read(), 0);
        Due.is("children", x.count(2), 1);
    }

    @Says("NONE, and nothing comes, if it would have more than 2,000.")
    static void p02_feed_justTo2000() {
        PuppetCourt x = fed(99);
        Due.is("feed from 1,980", feedBlanks(x), 2000);
    }

    @Says("NONE, and nothing comes, if it would have more than 2,000.")
    static void p02_feed_beyond2000() {
        PuppetCourt x = fed(100);
        Due.is("feed from 2,000", x.feed(-1, -1, -1, -1, -1), -1);
        Due.is("count(7)", x.count(7), 2000);
        Due.is("read()", x.read(), 0);
    }

    @Says("NONE, and nothing comes, if it would have more than 2,000.")
    static void p02_feed_beyond2000ByOne() {
        PuppetCourt x = fed(100);
        x.back(19);
        Due.is("feed from 1,981", x.feed(-1, -1, -1, -1, -1), -1);
        Due.is("count(7)", x.count(7), 1981);
        Due.is("read()", x.read(), 0);
    }

    // ---- promise 3

    @Says("The last n bytes of the tape go: how many it has.")
    static void p03_back_theLastGo() {
        PuppetCourt x = new PuppetCourt();
        Due.type(x, "child 1;child 2;");
        Due.is("back(8)", x.back(8), 8);
        x.read();
        Due.is("the first stays", x.count(2), 1);
    }

    @Says("The last n bytes of the tape go: how many it has.")
    static void p03_back_ofNone() {
        PuppetCourt x = fed(1);
        Due.is("back(0)", x.back(0), 20);
        Due.is("back(0) of an empty tape", new PuppetCourt().back(0), 0);
    }

    @Says("The last n bytes of the tape go: how many it has.")
    static void p03_back_ofAll() {
        PuppetCourt x = fed(1);
        Due.is("back(20)", x.back(20), 0);
        x = fed(100);
        Due.is("back(2000)", x.back(2000), 0);
    }

    @Says("The last n bytes of the tape go: how many it has.")
    static void p03_back_whatWentIsNotRead() {
        String[] texts = {"puppet abcdefghi", "seed 12345", "seed 1;", "child  1"};
        for (String text : texts) {
            PuppetCourt x = new PuppetCourt();
            Due.type(x, text);
            x.back(1);
            Due.is("read() of " + text, x.read(), 1);
            Due.is("place() of " + text, x.place(), text.length() - 1);
        }
    }

    @Says("NONE, and nothing goes, if it has not so many,")
    static void p03_back_ofMoreThanThereAre() {
        PuppetCourt x = fed(1);
        Due.is("back(21)", x.back(21), -1);
        Due.is("back(max)", x.back(Integer.MAX_VALUE), -1);
        Due.is("count(7)", x.count(7), 20);
        Due.is("back(1) of an empty tape", new PuppetCourt().back(1), -1);
    }

    @Says("or n is below 0.")
    static void p03_back_belowNone() {
        PuppetCourt x = fed(1);
        Due.is("back(-1)", x.back(-1), -1);
        Due.is("back(min)", x.back(Integer.MIN_VALUE), -1);
        Due.is("count(7)", x.count(7), 20);
    }

    // ---- promise 4: the tape

    @Says("The tape, which is empty then, is read: 0,")
    static void p04_read_theTapeIsEmptyThen() {
        PuppetCourt x = fed(100);
        Due.is("read()", x.read(), 0);
        Due.is("count(7)", x.count(7), 0);
        Due.is("back(1)", x.back(1), -1);
        Due.is("feed", feedBlanks(x), 20);
    }

    @Says("or the number of its FAULT.")
    static void p04_read_theTapeIsEmptyBehindAFault() {
        PuppetCourt x = new PuppetCourt();
        Due.is("read()", Due.read(x, "seed"), 1);
        Due.is("count(7)", x.count(7), 0);
        Due.is("read() again", x.read(), 0);
    }

    @Says("text: {TELL}.")
    static void p04_read_anEmptyText() {
        PuppetCourt x = Due.court("puppet a 1 1;");
        Due.is("read()", x.read(), 0);
        Due.is("it is in place of the one ahead", x.count(0), 0);
        good(" ");
    }

    @Says("A TEXT has 2,000 bytes at most.")
    static void p04_read_aTextOf2000Bytes() {
        PuppetCourt x = new PuppetCourt();
        Due.type(x, " ".repeat(1992) + "child 1;");
        Due.is("count(7)", x.count(7), 2000);
        Due.is("read()", x.read(), 0);
        Due.is("children", x.count(2), 1);
        Due.type(x, " ".repeat(1992) + "child 1 ");
        Due.is("read() without an end", x.read(), 1);
        Due.is("place()", x.place(), 2000);
        Due.type(x, " ".repeat(1999) + "?");
        x.read();
        Due.is("place() of the last byte", x.place(), 1999);
    }

    // ---- promise 4: tokens

    @Says("TOKENS, the longest that can be,")
    static void p04_read_theLongestToken() {
        good("puppet ata 1 1;");
        good("puppet puppetx 1 1;");
        fault("puppetx a 1 1;", 1, 0);
        fault("child1;childa 1;", 1, 7);
        good("storm 100;");
    }

    @Says("with blanks (9, 10, 13, 32) between or not:")
    static void p04_read_everyByteAsABlank() {
        for (int c = 0; c < 256; c++) {
            boolean blank = c == 9 || c == 10 || c == 13 || c == 32;
            String text = "seed" + (char) c + "7;";
            if (blank || c >= '0' && c <= '9') {
                good(text);
            } else {
                fault(text, 1, c >= 'a' && c <= 'z' ? 0 : 4);
            }
        }
    }

    @Says("with blanks (9, 10, 13, 32) between or not:")
    static void p04_read_noBlanksBetween() {
        good("puppet a1 2;child3;string b a0-9 3;seed4;");
        good("order=if(1)<2then 3else(4);");
        fault("puppet a12;", 1, 10);
        good("\t\n\r puppet\t\n\r a\n1\r2\t;\n");
    }

    @Says("NAMES (letters a .. z,")
    static void p04_read_lettersOfNames() {
        good("puppet a 1 1;");
        good("puppet z 1 1;");
        good("puppet azaz 1 1;");
        for (char c : new char[] {'`', '{', 'A', 'Z', '_', '@', '[', (char) 225, (char) 0}) {
            fault("puppet " + c + " 1 1;", 1, 7);
            fault("puppet a" + c + " 1 1;", 1, 8);
        }
    }

    @Says("8 at most,")
    static void p04_read_aNameOfNineLetters() {
        good("puppet abcdefgh 1 1;");
        fault("puppet abcdefghi 1 1;", 1, 7);
        fault("puppet abcdefghabcdefghabcdefgh 1 1;", 1, 7);
    }

    @Says("8 at most,")
    static void p04_read_namesThatDifferInTheEighthLetter() {
        good("puppet abcdefgh 1 1;puppet abcdefgi 1 1;puppet bbcdefgh 1 1;");
        fault("puppet abcdefgh 1 1;puppet abcdefgh 1 1;", 3, 27);
        good("puppet a 1 1;puppet aa 1 1;puppet aaa 1 1;");
    }

    @Says("NAMES (letters a .. z,")
    static void p04_read_namesOfOneAndOfTwoLetters() {
        for (String first : List.of("ba", "b", "z", "zz")) {
            for (char c = 'a'; c <= 'z'; c++) {
                for (char d = '`'; d <= 'z'; d++) {
                    String second = c + (d == '`' ? "" : String.valueOf(d));
                    if (!second.equals("at") && !second.equals("if")) {
                        String ahead = "puppet " + first + " 1 1;puppet ";
                        boolean twice = first.equals(second);
                        fault(ahead + second + " 1 1;", twice ? 3 : 0, twice ? ahead.length() : -1);
                    }
                }
            }
        }
    }

    @Says("none of the words in quotes)")
    static void p04_read_aWordIsNoName() {
        for (String word : WORDS) {
            fault("puppet " + word + " 1 1;", 1, 7);
            fault("puppet a 1 1;string " + word + " a 0 1 0;", 1, 20);
            fault("puppet a 1 1;string b " + word + " 0 1 0;", 1, 22);
            good("puppet " + word + "x 1 1;");
            good("puppet x" + word.substring(1) + " 1 1;");
        }
    }

    @Says("INTS (1 to 4 digits)")
    static void p04_read_anIntOfFiveDigits() {
        good("seed 0;");
        good("seed 9999;");
        good("seed 0000;");
        good("child 0009;");
        fault("seed 00000;", 1, 5);
        fault("seed 12345;", 1, 5);
        fault("seed 99999999999999999999;", 1, 5);
        fault("order = 10000;", 1, 8);
    }

    @Says("INTS (1 to 4 digits)")
    static void p04_read_anIntOfNoDigits() {
        fault("seed ;", 1, 5);
        fault("seed :;", 1, 5);
        fault("seed /;", 1, 5);
    }

    @Says("SIGNS ; = + - * / < ( ) .")
    static void p04_read_everyByteAsASign() {
        good("order=if 1<2 then(1+2)*3/4 else 5-6;");
        for (int c = 0; c < 256; c++) {
            boolean digit = c >= '0' && c <= '9';
            boolean between = c == 9 || c == 10 || c == 13 || c == 32 || c == ';';
            String text = "order=1" + (char) c + "1;";
            if (digit || "+-*/".indexOf(c) >= 0) {
                good(text);
            } else {
                fault(text, 1, between ? 8 : 7);
            }
        }
    }

    @Says("A longer one, all else, is no TOKEN.")
    static void p04_read_aLongerOneAtTheEnd() {
        fault("puppet abcdefghi", 1, 7);
        fault("seed 12345", 1, 5);
        fault("abcdefghi", 1, 0);
        fault("12345", 1, 0);
    }

    // ---- promise 4: the grammar

    /** Each tell cut short, and with something else at each place. */
    private static void everyPlaceOf(String ahead, String tell) {
        good(ahead + tell);
        String[] parts = tell.split(" ");
        int at = ahead.length();
        for (int j = 0; j < parts.length; j++) {
            String before = (ahead + tell).substring(0, at);
            fault(before + "?", 1, at);
            fault(before + "12345", 1, at);
            fault(before + "abcdefghi", 1, at);
            if (j > 0) {
                fault(before, 1, at);
                fault(before + "child", 1, at);
            }
            at += parts[j].length() + 1;
        }
    }

    @Says("TELL: 'puppet' NAME INT INT ';'")
    static void p04_read_everyPlaceOfAPuppet() {
        everyPlaceOf("", "puppet a 1 1 ;");
        fault("puppet a - 1 1;", 1, 9);
        fault("puppet a 1 1 1;", 1, 13);
        fault("puppet 1 1;", 1, 7);
    }

    @Says("| 'string' NAME NAME INT ['-'] INT INT ';'")
    static void p04_read_everyPlaceOfAString() {
        everyPlaceOf("puppet a 1 1;", "string b a 0 1 0 ;");
        everyPlaceOf("puppet a 1 1;", "string b a 0 - 1 0 ;");
        fault("puppet a 1 1;string b a 0 - - 1 0;", 1, 28);
        fault("puppet a 1 1;string b a 0 + 1 0;", 1, 26);
        fault("puppet a 1 1;string b a - 0 1 0;", 1, 24);
        fault("puppet a 1 1;string b a 0 1 - 0;", 1, 28);
    }

    @Says("| 'child' INT ';'")
    static void p04_read_everyPlaceOfAChild() {
        everyPlaceOf("", "child 1 ;");
        fault("child - 1;", 1, 6);
        fault("child 1 2;", 1, 8);
    }

    @Says("| ('order' | 'verdict' | 'votes') LAW ';'")
    static void p04_read_everyPlaceOfALaw() {
        everyPlaceOf("", "order = 1 ;");
        everyPlaceOf("", "verdict = 1 ;");
        everyPlaceOf("", "votes = 1 ;");
        fault("order 1;", 1, 6);
        fault("order = = 1;", 1, 8);
        fault("law = 1;", 1, 0);
    }

    @Says("| 'storm' INT ';' | 'seed' INT ';'.")
    static void p04_read_everyPlaceOfAStormAndASeed() {
        everyPlaceOf("", "storm 1 ;");
        everyPlaceOf("", "seed 1 ;");
        fault("storm;", 1, 5);
        fault("seed - 1;", 1, 5);
    }

    @Says("LAW: '=' {'if' E '<' E 'then' E 'else'} E.")
    static void p04_read_everyPlaceOfAnIf() {
        everyPlaceOf("", "order = if 1 < 2 then 3 else 4 ;");
        everyPlaceOf("", "order = if 1 < 2 then 3 else if 5 < 6 then 7 else 8 ;");
        fault("order = if 1 then 2 else 3;", 1, 13);
        fault("order = if 1 < 2 < 3 then 4 else 5;", 1, 17);
        fault("order = if 1 < 2 else 3;", 1, 17);
        fault("order = if 1 < 2 then if 2 < 3 then 1 else 2 else 3;", 1, 22);
        fault("order = 1 + if 1 < 2 then 3 else 4;", 1, 12);
        fault("order = (if 1 < 2 then 1 else 2);", 1, 9);
        fault("order = 1 < 2;", 1, 10);
        fault("order = 1 else 2;", 1, 10);
    }

    @Says("E: PART {('+' | '-') PART}.")
    static void p04_read_everyPlaceOfASum() {
        everyPlaceOf("", "order = 1 + 2 - 3 ;");
        fault("order = + 1;", 1, 8);
        fault("order = - 1;", 1, 8);
        fault("order = 1 + ;", 1, 12);
        fault("order = 1 - - 1;", 1, 12);
    }

    @Says("PART: UNIT {('*' | '/') UNIT}.")
    static void p04_read_everyPlaceOfAProduct() {
        everyPlaceOf("", "order = 1 * 2 / 3 ;");
        fault("order = * 1;", 1, 8);
        fault("order = 1 / ;", 1, 12);
        fault("order = 1 * - 1;", 1, 12);
    }

    @Says("UNIT: INT | VAR | '(' E ')'.")
    static void p04_read_everyPlaceOfABracket() {
        everyPlaceOf("", "order = ( 1 + at ) ;");
        fault("order = ();", 1, 9);
        fault("order = ;", 1, 8);
        fault("order = (1;", 1, 10);
        fault("order = 1);", 1, 9);
        fault("order = 1 2;", 1, 10);
        fault("order = (1 < 2);", 1, 11);
    }

    @Says("VAR: 'apart' | 'tangles' | 'pulls' | 'nods' | 'side' | 'hand' | 'seat' | 'which' | 'at'.")
    static void p04_read_everyWordAsAVar() {
        for (int i = 0; i < WORDS.length; i++) {
            if (i < 11) {
                fault("order = 1 + " + WORDS[i] + ";", 1, 12);
            } else {
                good("order = " + WORDS[i] + ";verdict = " + WORDS[i] + ";votes = " + WORDS[i] + ";");
            }
        }
        fault("puppet a 1 1;order = a;", 1, 21);
    }

    // ---- promise 4: what a text tells

    @Says("PUPPETS, 5 at most")
    static void p04_read_aSixthPuppet() {
        good(FIVE);
        fault(FIVE + "  puppet f 1 1;", 2, 67);
    }

    @Says("(a NAME, X where it is 0 .. 9,")
    static void p04_read_xOfAPuppet() {
        Due.is("X 0", Due.court("puppet a 0 1;").puppet(0, 0), 0);
        Due.is("X 9", Due.court("puppet a 9 1;").puppet(0, 0), 9);
        fault("puppet a 10 1;", 5, 9);
        fault("puppet a 9999 1;", 5, 9);
    }

    @Says("PAINT 0 .. 9),")
    static void p04_read_paintOfAPuppet() {
        Due.is("PAINT 0", Due.court("puppet a 1 0;").puppet(0, 3), 0);
        Due.is("PAINT 9", Due.court("puppet a 1 9;").puppet(0, 3), 9);
        fault("puppet a 1 10;", 5, 11);
        fault("puppet a 1 9999;", 5, 11);
    }

    @Says("numbered from 0 on as they stand:")
    static void p04_read_numbersOfPuppets() {
        PuppetCourt x = Due.court("puppet z 3 1; child 1; puppet a 8 2; puppet m 0 3; puppet b 9 4; puppet y 5 5;");
        int[] stand = {3, 8, 0, 9, 5};
        for (int i = 0; i < 5; i++) {
            Due.is("X of " + i, x.puppet(i, 0), stand[i]);
            Due.is("PAINT of " + i, x.puppet(i, 3), i + 1);
        }
    }

    @Says("PUPPET 0 is the plaintiff, 1 the defendant, 2 the judge.")
    static void p04_read_partsOfPuppets() {
        PuppetCourt x = Due.court("puppet a 2 0; puppet b 9 0; puppet c 4 0; string l c 2 0 2; verdict = apart * hand + 1;");
        Due.is("apart", x.court(2), 7);
        Due.is("verdict by the judge's hand", x.pull(0), 8 % 3);
    }

    @Says("STRINGS, 7 at most, likewise")
    static void p04_read_anEighthString() {
        String seven = sevenStrings();
        good(seven);
        fault(seven + " string i a 0 1 0;", 2, seven.length() + 1);
    }

    @Says("STRINGS, 7 at most, likewise")
    static void p04_read_numbersOfStrings() {
        PuppetCourt x = Due.court("puppet p 1 1; string z p 0 4 0; puppet d 1 1; string a d 1 5 1; string m p 2 6 2;");
        for (int i = 0; i < 3; i++) {
            Due.is("SIDE of " + i, x.string(i, 1), i);
            Due.is("move of " + i, x.string(i, 2), i + 4);
            Due.is("PUPPET of " + i, x.string(i, 0), i % 2);
        }
    }

    @Says("(a NAME, its PUPPET, of which SIDE 0 .. 2: who may pull it, 2: both;")
    static void p04_read_sideOfAString() {
        PuppetCourt x = Due.court("puppet a 1 1;string b a 0 0 0;string c a 1 0 0;string d a 2 0 0;");
        Due.is("SIDE 0 may", x.count(13), 5);
        x.pass();
        Due.is("SIDE 1 may", x.count(13), 6);
        fault("puppet a 1 1;string b a 3 0 0;", 5, 24);
    }

    @Says("how far it moves the PUPPET -9 .. 9,")
    static void p04_read_moveOfAString() {
        PuppetCourt x = Due.court("puppet a 9 1;string b a 2 - 9 0;string c a 2 9 0;string d a 2 - 0 0;");
        Due.is("-9", x.string(0, 2), -9);
        Due.is("9", x.string(1, 2), 9);
        Due.is("- 0", x.string(2, 2), 0);
        fault("puppet a 1 1;string b a 0 10 0;", 5, 26);
        fault("puppet a 1 1;string b a 0 - 10 0;", 5, 28);
    }

    @Says("what it TURNS 0 .. 3: 1 the head, 2 the hand, 3 both),")
    static void p04_read_turnsOfAString() {
        for (int turns = 0; turns <= 3; turns++) {
            PuppetCourt x = Due.court("puppet a 1 1;string b a 0 0 " + turns + ";");
            Due.is("TURNS", x.string(0, 3), turns);
            x.pull(0);
            Due.is("head by " + turns, x.puppet(0, 1), turns % 2);
            Due.is("hand by " + turns, x.puppet(0, 2), turns / 2);
        }
        fault("puppet a 1 1;string b a 0 0 4;", 5, 28);
    }

    @Says("CHILDREN, 7 at most")
    static void p04_read_anEighthChild() {
        good(SEVEN_CHILDREN);
        fault(SEVEN_CHILDREN + " child 7;", 2, 57);
        Due.is("seven", Due.court(SEVEN_CHILDREN).count(2), 7);
    }

    @Says("(SEAT 0 .. 9).")
    static void p04_read_seatOfAChild() {
        PuppetCourt x = Due.court("child 0; child 9; votes = seat;");
        // the one never, the other in nine of ten
        Due.is("one of them", x.jury(1, false), 9);
        Due.is("none of them", x.jury(0, false), 1);
        fault("child 10;", 5, 6);
        fault("child 9999;", 5, 6);
    }

    @Says("LAWS: ORDER (1), VERDICT (0), VOTES (5), if not told;")
    static void p04_read_lawsThatAreNotTold() {
        PuppetCourt x = Due.court("puppet a 1 1;string b a 2 0 0;child 1;");
        Due.is("ORDER", x.may(0), 1);
        Due.is("VERDICT", x.pull(0), 0);
        Due.is("VOTES", x.jury(1, false) * 10 + x.jury(1, true), 12);
        x = new PuppetCourt();
        x.pass();
        Due.is("VERDICT of a new object", x.court(5), 0);
    }

    @Says("if not told; the last one.")
    static void p04_read_theLastLaw() {
        PuppetCourt x = Due.court("puppet a 1 1;string b a 2 0 0;child 1; order = 0; verdict = 1; votes = 10;"
            + "votes = 0; verdict = 2; order = 1;");
        Due.is("ORDER", x.may(0), 1);
        Due.is("VOTES", x.jury(0, false), 1);
        Due.is("VERDICT", x.pull(0), 2);
    }

    @Says("STORM 0 .. 100 (0),")
    static void p04_read_stormOfAText() {
        fault("storm 101;", 5, 6);
        fault("storm 9999;storm 1;", 5, 6);
        for (String told : List.of("", "storm 0;", "storm 100;")) {
            PuppetCourt x = Due.court("puppet a 1 1;string b a 2 0 0;" + told);
            for (int i = 0; i < 100; i++) {
                x.pull(0);
            }
            Due.is("storms by '" + told + "'", x.count(6), told.contains("100") ? 100 : 0);
        }
    }

    @Says("SEED 0 .. 9999 (0): the last one.")
    static void p04_read_seedOfAText() {
        String text = "puppet a 1 1;string b a 2 0 0;storm 50;";
        for (int seed : new int[] {0, 1, 9998, 9999}) {
            PuppetCourt x = Due.court(text + "seed 77; seed " + seed + ";");
            int due = 0;
            for (int i = 0; i < 60; i++) {
                x.pull(0);
                due += Lot.of(100, seed, 4 * i) < 50 ? 1 : 0;
            }
            Due.is("storms by seed " + seed, x.count(6), due);
        }
        PuppetCourt usual = Due.court(text);
        PuppetCourt zero = Due.court(text + "seed 0;");
        for (int i = 0; i < 60; i++) {
            usual.pull(0);
            zero.pull(0);
            Due.is("storms by no seed", usual.count(6), zero.count(6));
        }
    }

    @Says("SEED 0 .. 9999 (0): the last one.")
    static void p04_read_theLastStorm() {
        PuppetCourt x = Due.court("puppet a 1 1;string b a 2 0 0;storm 100;storm 0;");
        x.pull(0);
        Due.is("storms", x.count(6), 0);
        x = Due.court("puppet a 1 1;string b a 2 0 0;storm 0;storm 100;");
        x.pull(0);
        Due.is("storms", x.count(6), 1);
    }

    // ---- promises 4 and 5: faults

    @Says({"FAULTS of a text, the first by its place", "1 SYNTAX: a TOKEN, or what is none, with which no text goes on."})
    static void p04_read_theFirstFaultByItsPlace() {
        fault("seed ? ? ;", 1, 5);
        fault(SEVEN_CHILDREN + "child ?", 2, 56);
        fault("seed ?;" + SEVEN_CHILDREN + "child 1;", 1, 5);
    }

    @Says("(a byte; the text's end: its length),")
    static void p05_place_theTextsEnd() {
        fault("seed 1", 1, 6);
        fault("seed 1  \n", 1, 9);
        fault("puppet", 1, 6);
        fault("order = (", 1, 9);
    }

    @Says("(a byte; the text's end: its length),")
    static void p05_place_theFirstByte() {
        fault("?", 1, 0);
        fault("x", 1, 0);
        fault(";", 1, 0);
        fault("7", 1, 0);
    }

    @Says("of one place the least:")
    static void p04_read_twoFaultsOfOnePlace() {
        String full = tokens(400);
        // behind the 400th a token that is out of place: SYNTAX, not ROOM
        fault(full + ";", 1, full.length());
        fault(full + "x", 1, full.length());
        fault(full + "12345", 1, full.length());
        fault(full + "?", 1, full.length());
    }

    /** A law of so many tokens, an even number. */
    private static String tokens(int count) {
        return "order=1" + "+1".repeat((count - 4) / 2) + ";";
    }

    @Says("2 ROOM: a 401st TOKEN;")
    static void p04_read_a401stToken() {
        String full = tokens(400);
        good(full);
        good(full + " \n ");
        fault(full + " child 1;", 2, full.length() + 1);
        String less = "child 1;" + tokens(394) + "child 1;";
        good(less);
        fault(less + "seed", 2, less.length());
    }

    @Says("2 ROOM: a 401st TOKEN;")
    static void p04_read_a401stTokenWithinATell() {
        String almost = tokens(398);
        fault(almost + "child 1;", 2, almost.length() + 7);
        fault(almost + "child 1", 1, almost.length() + 7);
        fault(almost + "seed 12345", 1, almost.length() + 5);
        almost = tokens(396);
        fault(almost + "puppet a 1 1;", 2, almost.length() + 12);
        // a number that is wrong, and a token too many: ROOM goes ahead of WRONG
        fault(almost + "puppet a 99 1;", 2, almost.length() + 13);
    }

    /** So many tokens of good tells, a puppet a among them. */
    private static String filled(int tokens) {
        String ahead = "puppet a 1 1;";
        int rest = tokens - 5;
        if (rest % 2 == 1) {
            ahead += "child 1;";
            rest -= 3;
        }
        return ahead + tokens(rest);
    }

    @Says("2 ROOM: a 401st TOKEN;")
    static void p04_read_a401stTokenAtEachPlace() {
        String[] tells = {"puppet b 1 1 ;", "string b a 0 - 1 1 ;", "string b a 0 1 1 ;", "child 1 ;", "storm 1 ;", "seed 1 ;",
            "order = if 1 < 2 then 3 + 4 else 5 * ( 6 ) ;", "verdict = pulls ;", "votes = seat / 2 ;"};
        for (String tell : tells) {
            String[] parts = tell.split(" ");
            int at = 0;
            for (int j = 0; j < parts.length; j++) {
                String before = filled(400 - j);
                fault(before + tell, 2, before.length() + at);
                fault(before + tell.substring(0, at) + "?", 1, before.length() + at);
                at += parts[j].length() + 1;
            }
            good(filled(400 - parts.length) + tell);
        }
    }

    @Says("2 ROOM: a 401st TOKEN;")
    static void p04_read_aLawOf400Tokens() {
        // 3 of the child, 396 of the law: 5, and 196 times one more or less
        PuppetCourt x = Due.court("child 1;votes=5" + "+1-1".repeat(98) + ";");
        Due.is("the votes", x.jury(1, true), 2);
        x = Due.court("verdict=2" + "+3-3".repeat(99) + ";");
        x.pass();
        Due.is("the verdict", x.court(5), 2);
        x = Due.court("child 1;" + "votes=7;".repeat(98) + "votes=3;");
        Due.is("the votes of the last law", x.jury(1, false) * 100 + x.jury(1, true), 310);
    }

    @Says("one more of a sort than told (at its first TOKEN);")
    static void p04_read_oneMoreOfASort() {
        fault(FIVE + "\n puppet", 2, 67);
        fault(FIVE + "puppet ? ? ?", 2, 65);
        fault(sevenStrings() + " string", 2, sevenStrings().length() + 1);
        fault(SEVEN_CHILDREN + "child", 2, 56);
        // laws, storms and seeds are told as often as one likes
        good("seed 1;".repeat(20) + "storm 1;".repeat(20) + "order=1;".repeat(20) + "verdict=1;".repeat(20)
            + "votes=1;".repeat(10));
    }

    @Says("a 5th if of a LAW (at it);")
    static void p04_read_aFifthIf() {
        good("order=" + FOUR_IFS + "1;verdict=" + FOUR_IFS + "1;votes=" + FOUR_IFS + "1;order=" + FOUR_IFS + "1;");
        fault("order=" + FOUR_IFS + "if 1<2 then 3 else 4;", 2, 6 + FOUR_IFS.length());
        fault("votes=" + FOUR_IFS + "if", 2, 6 + FOUR_IFS.length());
    }

    @Says("a 7th ( within one another (at it).")
    static void p04_read_aSeventhBracket() {
        good("order=((((((1))))))+((((((2))))))*((((((3))))));");
        good("order=if((((((1))))))<((((((2))))))then((((((3))))))else((((((4))))));");
        fault("order=(((((((1)))))));", 2, 12);
        fault("order=(((((((", 2, 12);
        fault("order=1+((((((2*(3))))))));", 2, 16);
        good("order=" + "(1)+".repeat(90) + "1;");
    }

    @Says("If there is none, likewise:")
    static void p04_read_meaningBehindForm() {
        fault("puppet a 10 1; seed", 1, 19);
        fault("puppet a 10 1;" + SEVEN_CHILDREN + "child", 2, 70);
        fault("string a b 0 0 0; ?", 1, 18);
    }

    @Says("If there is none, likewise:")
    static void p04_read_theFirstFaultOfMeaning() {
        fault("puppet a 10 1;puppet a 1 1;", 5, 9);
        fault("puppet a 1 1;puppet a 10 1;", 3, 20);
        fault("puppet a 1 1;string a b 3 1 0;", 3, 20);
        fault("puppet a 1 1;string c b 3 1 0;", 4, 22);
        fault("child 10;string c b 3 1 0;", 5, 6);
    }

    @Says("3 TWICE: a NAME told already (all together).")
    static void p04_read_aNameToldTwice() {
        fault("puppet a 1 1;puppet a 1 1;", 3, 20);
        fault("puppet a 1 1;string b a 0 1 0;string b a 0 1 0;", 3, 37);
        fault("puppet a 1 1;string a a 0 1 0;", 3, 20);
        fault("puppet a 1 1;string b a 0 1 0;puppet b 1 1;", 3, 37);
        String seven = sevenStrings().replace("string h", "string b");
        fault(seven, 3, seven.lastIndexOf("b a"));
    }

    @Says("4 NAME: (at it) no such PUPPET told ahead")
    static void p04_read_noSuchPuppetToldAhead() {
        fault("string b a 0 1 0;", 4, 9);
        fault("string b a 0 1 0;puppet a 1 1;", 4, 9);
        fault("puppet a 1 1;string b c 0 1 0;", 4, 22);
        fault("puppet a 1 1;string b b 0 1 0;", 4, 22);
        fault("puppet a 1 1;string b a 0 1 0;string c b 0 1 0;", 4, 39);
    }

    @Says("(a NAME told more than once is that of the first one).")
    static void p04_read_aNameOfTheFirstOne() {
        // the string's name is the puppet's, which is told ahead: no fault of NAME, but TWICE
        fault("puppet a 1 1;string a a 0 1 0;", 3, 20);
        // the string's name is its own: no puppet's
        fault("puppet c 1 1;string a a 0 1 0;puppet a 1 1;", 4, 22);
    }

    @Says("5 WRONG (at the INT): a number not as told above.")
    static void p05_place_ofANumber() {
        fault("puppet a   10 1;", 5, 11);
        fault("puppet a 1 1;string b a 0 -   10 0;", 5, 30);
        fault("storm\n101;", 5, 6);
        fault("puppet a 0010 1;", 5, 9);
        good("puppet a 0009 1;");
        good("order = 9999;");
    }

    @Says("A text with a FAULT changes nothing but the tape;")
    static void p04_read_aFaultChangesNothing() {
        List<String> faulty = new ArrayList<>(List.of("puppet z 5 5; puppet", "puppet z 5 5;puppet z 5 5;",
            "puppet z 5 5;string y x 0 1 0;", "puppet z 5 5;child 10;", SEVEN_CHILDREN + "child 1;"));
        for (String text : faulty) {
            PuppetCourt x = Due.court("puppet a 3 4; string s a 2 1 3; child 2; verdict = pulls / 3;");
            x.pull(0);
            x.hold(1);
            x.pass();
            x.pull(0);
            x.open();
            x.pull(0);
            x.tell(0, 1, 2);
            String before = Due.state(x);
            Due.is("read() of " + text, Due.read(x, text) > 0, true);
            Due.same("behind " + text, Due.state(x), before);
            Due.is("the tape", x.count(7), 0);
            Due.is("undo()", x.undo(), true);
            Due.is("restore(1)", x.restore(1), true);
            x.pull(0);
            Due.is("the verdict's law", x.pull(0), 1);
        }
    }

    /** A court in which much has happened. */
    private static PuppetCourt used() {
        PuppetCourt x = Due.court("puppet a 3 4; puppet b 2 2; string s a 2 1 3; string t b 2 0 1; child 2; child 3;"
            + "storm 100; seed 5; order = 9 - pulls; votes = 1; verdict = pulls / 3;");
        for (int i = 0; i < 3; i++) {
            x.pull(0);
        }
        x.open();
        x.pull(0);
        x.pull(0);
        x.tell(0, 1, 2);
        x.hold(0);
        x.hold(2);
        return x;
    }

    @Says("else it is in place of the one ahead:")
    static void p04_read_inPlaceOfTheOneAhead() {
        PuppetCourt x = used();
        Due.is("read()", Due.read(x, "puppet z 7 1;string y z 2 1 0;child 3;"), 0);
        Due.is("PUPPETS", x.count(0), 1);
        Due.is("STRINGS", x.count(1), 1);
        Due.is("CHILDREN", x.count(2), 1);
        Due.is("VOTES", x.jury(1, true), 2);
        for (int i = 0; i < 2; i++) {
            Due.is("ORDER and VERDICT", x.pull(0), 0);
        }
        Due.is("STORM", x.count(6), 0);
        Due.is("pulled", x.string(0, 4), 2);
    }

    @Says("a case is open, PUPPETS as told, heads and hands down,")
    static void p04_read_aCaseIsOpenThen() {
        PuppetCourt x = Due.court("puppet a 3 4; string s a 2 1 3; verdict = 1;");
        x.pull(0);
        Due.is("over", x.count(14), 1);
        Due.read(x, "puppet a 3 4; string s a 2 1 3;");
        Due.is("open", x.count(14), 0);
        Due.is("verdict", x.court(5), 0);
        Due.is("cases", x.count(3), 1);
        Due.is("X", x.puppet(0, 0), 3);
        Due.is("head", x.puppet(0, 1), 0);
        Due.is("hand", x.puppet(0, 2), 0);
        Due.is("turn", x.court(0), 0);
        Due.is("won", x.count(11), 0);
    }

    @Says("no pulls; no precedents; nothing can be undone, nothing is TOLD, SLOTS hold nothing.")
    static void p04_read_nothingIsLeft() {
        PuppetCourt x = used();
        Due.is("read()", x.read(), 0);
        for (int what = 0; what <= 14; what++) {
            Due.is("count(" + what + ")", x.count(what), what == 3 ? 1 : 0);
        }
        Due.is("pulls", x.court(1), 0);
        Due.is("precedents", x.precedent(-1, 0), 0);
        Due.is("undo()", x.undo(), false);
        Due.is("forget()", x.forget(), 0);
        for (int slot = 0; slot < 3; slot++) {
            Due.is("restore(" + slot + ")", x.restore(slot), false);
        }
    }

    @Says("no pulls; no precedents; nothing can be undone, nothing is TOLD, SLOTS hold nothing.")
    static void p04_read_undoingGoesOnAnew() {
        PuppetCourt x = used();
        Due.read(x, "puppet z 7 1;");
        x.pass();
        Due.is("undo()", x.undo(), true);
        Due.is("pulls", x.court(1), 0);
        Due.is("undo() beyond", x.undo(), false);
        Due.is("X", x.puppet(0, 0), 7);
    }

    @Says("else it is in place of the one ahead:")
    static void p04_read_noSeedIsLeft() {
        String text = "puppet a 1 1;string b a 2 0 0;storm 50;";
        PuppetCourt x = Due.court("seed 77;");
        Due.read(x, text);
        PuppetCourt fresh = Due.court(text);
        for (int i = 0; i < 60; i++) {
            x.pull(0);
            fresh.pull(0);
            Due.is("storms", x.count(6), fresh.count(6));
        }
    }

    @Says("else it is in place of the one ahead:")
    static void p04_read_noCasesWonAreLeft() {
        PuppetCourt x = Due.court("verdict = pulls;");
        x.pass();
        Due.read(x, "verdict = 2 * pulls;");
        Due.is("won by the plaintiff", x.count(11), 0);
        x.pass();
        Due.is("won by the defendant", x.count(12), 1);
        Due.read(x, "");
        Due.is("won by the defendant then", x.count(12), 0);
    }

    @Says("else it is in place of the one ahead:")
    static void p04_read_manyTextsOneBehindTheOther() {
        PuppetCourt x = new PuppetCourt();
        String text = "puppet a 1 1;string b a 2 0 0;child 1;votes=2" + "+1-1".repeat(30) + ";";
        for (int i = 0; i < 20; i++) {
            Due.is("read() " + i, Due.read(x, i % 2 == 0 ? text : text + "?"), i % 2);
            Due.is("votes behind " + i, x.jury(1, true), 5);
            Due.is("may behind " + i, x.may(0), 1);
        }
    }

    // ---- promise 5

    @Says("The byte of the latest read()'s FAULT;")
    static void p05_place_ofTheLatestRead() {
        PuppetCourt x = new PuppetCourt();
        Due.read(x, "   ?");
        Due.is("place()", x.place(), 3);
        Due.is("place() again", x.place(), 3);
        Due.read(x, "?");
        Due.is("place() of the next", x.place(), 0);
        Due.type(x, "     ?");
        x.pass();
        Due.is("place() until it is read", x.place(), 0);
    }

    @Says("NONE without.")
    static void p05_place_withoutAFault() {
        PuppetCourt x = new PuppetCourt();
        Due.is("place() without a read", x.place(), -1);
        Due.read(x, "?");
        Due.read(x, "seed 1;");
        Due.is("place() behind a good text", x.place(), -1);
    }
}
