/** Promises 2 to 5: the tape, and the faults of texts with their places. */
public final class FaultsTest {
    public static void main(String[] args) {
        tape();
        goodTexts();
        syntax();
        room();
        meaning();
        whatAFaultLeaves();
        Due.end("FaultsTest");
    }

    private static void fault(String text, int fault, int place) {
        PuppetCourt court = new PuppetCourt();
        String shown = text.length() > 80 ? text.substring(0, 80) + ".." : text;
        Due.is("read of " + shown, Due.read(court, text), fault);
        Due.is("place of " + shown, court.place(), place);
        Due.is("tape behind " + shown, court.count(7), 0);
    }

    private static void good(String text) {
        fault(text, 0, -1);
    }

    private static void tape() {
        PuppetCourt court = new PuppetCourt();
        Due.is("place() at first", court.place(), -1);
        Due.is("back(1) of nothing", court.back(1), -1);
        Due.is("back(0) of nothing", court.back(0), 0);
        Due.is("back(-1)", court.back(-1), -1);
        for (int i = 1; i <= 100; i++) {
            Due.is("feed", court.feed(0x20202020, 0x20202020, 0x20202020, 0x20202020, 0x20202020), 20 * i);
        }
        Due.is("feed beyond", court.feed(1, 2, 3, 4, 5), -1);
        Due.is("count(7)", court.count(7), 2000);
        Due.is("back(1)", court.back(1), 1999);
        Due.is("feed beyond by one less", court.feed(1, 2, 3, 4, 5), -1);
        Due.is("back(2000)", court.back(2000), -1);
        Due.is("back(19)", court.back(19), 1980);
        Due.is("feed just", court.feed(0x20202020, 0x20202020, 0x20202020, 0x20202020, 0x20202020), 2000);
        Due.is("back(min)", court.back(Integer.MIN_VALUE), -1);
        Due.is("back(max)", court.back(Integer.MAX_VALUE), -1);
        Due.is("read of blanks", court.read(), 0);
        Due.is("count(7) behind", court.count(7), 0);
        // the highest byte of a first: "seed 7;" and blanks
        Due.is("feed bytes", court.feed(0x73656564, 0x20373b20, 0x20202020, 0x20202020, 0x20202020), 20);
        Due.is("read of bytes", court.read(), 0);
        court.feed(0x20202020, 0x73202020, 0x20202020, 0x20202020, 0x20202020);
        Due.is("read of s", court.read(), 1);
        Due.is("place of s", court.place(), 4);
        court.feed(-1, 0x73202020, 0x20202020, 0x20202020, 0x20202020);
        Due.is("read of 255", court.read(), 1);
        Due.is("place of 255", court.place(), 0);
    }

    private static void goodTexts() {
        good("");
        good(" \t\r\n");
        good("puppet abcdefgh 0 9;");
        good("puppet a1 2;");
        good("puppet a 0009 0000;");
        good("puppet\na\t1\r2 ;");
        good("seed 9999;seed 0;storm 100;storm 0;");
        good("puppet a 1 1;string b a 0-9 3;string c a 1 9 0;string d a 2 - 0 1;");
        good("puppet azbycxdw 1 1;string zzzzzzzz azbycxdw 0 0 0;");
        good("order = if ((((((1)))))) < ((((((2)))))) then ((((((3)))))) else ((((((4))))));");
        good("puppet puppets 1 1;string ifs puppets 0 0 0;");
        good("order=1;order=2;verdict=(apart+tangles)*pulls-nods/side;votes=hand-seat*which+at;");
        good("order = if 1 < 2 then 3 else if 2<3 then 4 else if 3<4 then 5 else if 4<5 then 6 else 7;");
        good("order = ((((((1)))))) + ((((((2))))));");
        good("puppet a 1 1;puppet b 1 1;puppet c 1 1;puppet d 1 1;puppet e 1 1;");
        good("child 1;child 2;child 3;child 4;child 5;child 6;child 9;");
    }

    private static void syntax() {
        fault("x", 1, 0);
        fault("1", 1, 0);
        fault(";", 1, 0);
        fault("  Puppet a 1 1;", 1, 2);
        fault("puppet", 1, 6);
        fault("puppet  ", 1, 8);
        fault("puppet a 1 1", 1, 12);
        fault("puppet a 1 1 ", 1, 13);
        fault("puppet if 1 1;", 1, 7);
        fault("puppet at 1 1;", 1, 7);
        fault("puppet abcdefghi 1 1;", 1, 7);
        fault("puppet a 12345 1;", 1, 9);
        fault("puppet a 1 1 1;", 1, 13);
        fault("puppet a - 1 1;", 1, 9);
        fault("puppet a 1,1;", 1, 10);
        fault("puppet a 1 1;;", 1, 13);
        fault("puppet a 1 1;string b a 0 + 1 0;", 1, 26);
        fault("puppet a 1 1;string b a 0 - - 1 0;", 1, 28);
        fault("puppet a 1 1;string b a - 0 1 0;", 1, 24);
        fault("puppet a 1 1;string b 1 0 1 0;", 1, 22);
        fault("child - 1;", 1, 6);
        fault("storm;", 1, 5);
        fault("order 1;", 1, 6);
        fault("order = ;", 1, 8);
        fault("order = -1;", 1, 8);
        fault("order = 1 + ;", 1, 12);
        fault("order = 1 2;", 1, 10);
        fault("order = (1;", 1, 10);
        fault("order = 1);", 1, 9);
        fault("order = ();", 1, 9);
        fault("order = x;", 1, 8);
        fault("order = 1 < 2;", 1, 10);
        fault("order = (1 < 2);", 1, 11);
        fault("order = (if 1 < 2 then 1 else 2);", 1, 9);
        fault("order = if 1 then 2 else 3;", 1, 13);
        fault("order = if 1 < 2 < 3 then 2 else 3;", 1, 17);
        fault("order = if 1 < 2 else 3;", 1, 17);
        fault("order = if 1 < 2 then if 2 < 3 then 1 else 2 else 3;", 1, 22);
        fault("order = if 1 < 2 then 3;", 1, 23);
        fault("order = 1 + if 1 < 2 then 3 else 4;", 1, 12);
        fault("order = 12345;", 1, 8);
        fault("order = 1" + (char) 0 + ";", 1, 9);
        fault("order = 1" + (char) 233 + ";", 1, 9);
        // a fault of syntax goes before one of meaning, wherever it is
        fault("puppet a 99 99; x", 1, 16);
    }

    private static void room() {
        String five = "puppet a 1 1;puppet b 1 1;puppet c 1 1;puppet d 1 1;puppet e 1 1;";
        fault(five + " puppet f 1 1;", 2, 66);
        fault(five + " puppet ; x", 2, 66);
        fault("puppet x;" + five + "puppet f", 1, 8);
        StringBuilder strings = new StringBuilder("puppet a 1 1;");
        for (char c = 'b'; c < 'i'; c++) {
            strings.append("string ").append(c).append(" a 0 1 0;");
        }
        good(strings.toString());
        fault(strings + "string i a 0 1 0;", 2, strings.length());
        String children = "child 1;child 2;child 3;child 4;child 5;child 6;child 7;";
        fault(children + "child", 2, 56);
        String ifs = "order = if 1<2 then 3 else if 1<2 then 3 else if 1<2 then 3 else if 1<2 then 3 else ";
        fault(ifs + "if", 2, ifs.length());
        good(ifs + "1; verdict = " + ifs.substring(8) + " 1;");
        fault("order = (((((((1)))))));", 2, 14);
        fault("order = ((((((1))))))+(((((((1", 2, 28);
        fault("order = if 1 < (((((((", 2, 21);
        tokens();
    }

    /** "child 1;" is three tokens; laws of sums fill up to 400 just. */
    private static void tokens() {
        StringBuilder law = new StringBuilder("order=1");
        for (int i = 0; i < 198; i++) {
            law.append("+1");
        }
        // order = 1, 396 more: 399, and ; the 400th
        good(law + ";");
        fault(law + ";seed 1;", 2, law.length() + 1);
        fault(law + ";;", 1, law.length() + 1);
        fault(law + ";?", 1, law.length() + 1);
        fault(law + ";x", 1, law.length() + 1);
        good(law + ";   ");
        // the 400th token is a +, what comes then is the 401st
        fault(law + "+1;", 2, law.length() + 1);
        fault(law + "+", 1, law.length() + 1);
        fault(law + "+;", 1, law.length() + 1);
        fault(law + "+12345;", 1, law.length() + 1);
    }

    private static void meaning() {
        fault("puppet a 10 1;", 5, 9);
        fault("puppet a 9 10;", 5, 11);
        fault("puppet a 1 1;puppet a 1 1;", 3, 20);
        fault("puppet a 1 1;puppet a 10 1;", 3, 20);
        fault("puppet a 10 1;puppet a 1 1;", 5, 9);
        fault("puppet a 1 1;string a a 0 1 0;", 3, 20);
        fault("puppet a 1 1;string b a 0 1 0;string b a 0 1 0;", 3, 37);
        fault("puppet a 1 1;string b a 0 1 0;puppet b 0 1;", 3, 37);
        fault("string b a 0 1 0;puppet a 1 1;", 4, 9);
        fault("puppet a 1 1;string b b 0 1 0;", 4, 22);
        fault("puppet a 1 1;string b c 3 1 0;", 4, 22);
        fault("puppet a 1 1;string b a 3 1 0;", 5, 24);
        fault("puppet a 1 1;string b a 2 10 0;", 5, 26);
        fault("puppet a 1 1;string b a 2 - 10 0;", 5, 28);
        fault("puppet a 1 1;string b a 2 - 9 4;", 5, 30);
        fault("child 10;", 5, 6);
        fault("storm 101;", 5, 6);
        fault("storm 9999;storm 1;", 5, 6);
    }

    private static void whatAFaultLeaves() {
        PuppetCourt court = Due.court("puppet a 3 4; string s a 2 1 0; child 2; verdict = pulls / 3;");
        court.pull(0);
        court.tell(0, 1, 2);
        court.hold(1);
        Due.is("read of a fault", Due.read(court, "puppet b 5 5; puppet c 11 1;"), 5);
        Due.is("place()", court.place(), 23);
        Due.is("count(0)", court.count(0), 1);
        Due.is("puppet(0, 0)", court.puppet(0, 0), 4);
        Due.is("count(8)", court.count(8), 1);
        Due.is("count(9)", court.count(9), 1);
        Due.is("count(10)", court.count(10), 1);
        Due.is("count(7)", court.count(7), 0);
        court.pull(0);
        Due.is("the third pull", court.pull(0), 1);
        court.open();
        Due.is("read of a good one", Due.read(court, "puppet b 5 5;"), 0);
        Due.is("place() then", court.place(), -1);
        Due.is("puppet(0, 0) then", court.puppet(0, 0), 5);
        for (int what = 0; what <= 14; what++) {
            Due.is("count(" + what + ") then", court.count(what), what == 0 || what == 3 ? 1 : 0);
        }
        Due.is("restore(1) then", court.restore(1), false);
        Due.is("undo() then", court.undo(), false);
    }
}
