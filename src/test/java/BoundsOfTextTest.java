/** The boundary cases of promises 1 to 3 and of what the Terms say of a SEA's text. */
public final class BoundsOfTextTest {
    private static final Due DUE = new Due();
    private static final String SIX_PLACES = "p00;p01;p02;p03;p04;p05;";
    private static final String SEVEN_HANDS = "hh00;hh00;hh00;hh00;hh00;hh00;hh00;";

    public static void main(String[] args) {
        newObject();
        lettersThatCome();
        lettersRefused();
        lettersBecomeASea();
        ninetySixLetters();
        heads();
        places();
        hands();
        ships();
        ofHands();
        daysInAText();
        faultsOfForm();
        faultsAtTheEnd();
        faultsOfSense();
        dayAbove999();
        noRoom();
        allOrNothing();
        DUE.end();
    }

    private static void newObject() {
        DUE.promise(1, "No PLACES, no HANDS, CELL 0.");
        DUE.are(new NeedleToTheMissed(), "count(0) 0", "count(1) 0", "count(2) 0", "count(3) 0", "count(4) 0",
            "count(5) 0", "count(6) 0", "count(7) 0", "count(11) 0", "count(12) 0", "count(13) 0", "count(14) 0",
            "count(15) 0", "count(16) 0", "place(0) -1", "hand(0, 0) -1", "nearest() -9", "strongest() -9",
            "clear() 0", "on() -3", "image() 0", "on() 0", "sails(63) 0");
    }

    private static void lettersThatCome() {
        DUE.promise(2, "A letter (0 .. 255) comes: how many there are.");
        NeedleToTheMissed x = new NeedleToTheMissed();
        DUE.are(x, "letter(0) 1", "letter(255) 2", "count(7) 2", "sea() -1000");
        for (int c = 0; c <= 95; c++) {
            DUE.is("letter(" + c + ")", x.letter(c), c + 1);
        }
        DUE.is("count(7)", x.count(7), 96);
        x = new NeedleToTheMissed();
        for (int c = 160; c <= 255; c++) {
            DUE.is("letter(" + c + ")", x.letter(c), c - 159);
        }
    }

    private static void lettersRefused() {
        DUE.promise(2, "-4; -6 (255; 96, too).");
        NeedleToTheMissed x = new NeedleToTheMissed();
        DUE.are(x, "letter(-1) -4", "letter(256) -6", "count(7) 0", "letter(112) 1", "letter(-1) -4", "letter(48) 2",
            "letter(256) -6", "letter(48) 3", "letter(59) 4", "sea() 1", "place(0) 0", "count(14) 2", "count(16) 2");
        for (int i = 1; i <= 95; i++) {
            x.letter('s');
        }
        DUE.are(x, "letter(115) 96", "letter(115) -6", "letter(256) -6", "letter(-1) -4", "count(7) 96", "count(14) 3",
            "count(16) 4", "sea() -1001", "letter(115) 1");
    }

    private static void lettersBecomeASea() {
        DUE.promise(3, "The letters become a SEA, and are no more (with a FAULT neither): how many STATEMENTS;"
            + " the FAULT (nothing is counted).");
        NeedleToTheMissed x = new NeedleToTheMissed();
        DUE.is("no letters", x.sea(), -1000);
        DUE.is("one statement", Due.tell(x, "s09;"), 1);
        DUE.are(x, "count(7) 0", "sea() -1000", "count(3) 9");
        DUE.is("a FAULT of kind 1", Due.tell(x, "s08;s"), -1005);
        DUE.are(x, "count(7) 0", "count(3) 9", "letter(59) 1", "sea() -1000", "count(7) 0");
        DUE.is("a FAULT of kind 2", Due.tell(x, "s08;s64;"), -2004);
        DUE.are(x, "count(7) 0", "count(3) 9", "sea() -1000", "count(11) 0", "count(12) 0", "count(13) 0", "count(14) 0",
            "count(15) 0", "count(16) 0");
        // The next SEA comes to what there is.
        DUE.is("places", Due.tell(x, "p00;p01;"), 2);
        DUE.is("a hand of the second", Due.tell(x, "hh01;"), 1);
        DUE.are(x, "count(0) 2", "count(1) 1", "hand(0, 2) 1");
    }

    private static void ninetySixLetters() {
        DUE.terms("A SEA is told in letters, one by one (96 at most): STATEMENTS, each with \";\" behind:");
        NeedleToTheMissed x = Due.of("p00;hh00;");
        DUE.is("32 statements of 3 letters", Due.tell(x, "a0;".repeat(32)), 32);
        DUE.is("24 statements of 4 letters", Due.tell(x, "d01;".repeat(24)), 24);
        DUE.are(x, "count(2) 24", "hand(0, 4) 1", "hand(0, 3) 24");
        DUE.is("19 of 5 letters are 95", Due.tell(Due.of("p00;"), "hh00;".repeat(7) + "d01;".repeat(15)), 22);
        DUE.told("d01;d01", -1007);
        DUE.told("d01d01;", -1003);
        DUE.told("d01:", -1003);
        DUE.told("d01<", -1003);
        DUE.told("d01;;", -1004);
        DUE.told("d01; d01;", -1004);
    }

    private static void heads() {
        DUE.terms("FAULT: kind 1 the place of the first letter with which no SEA can go on");
        for (char c = 0; c <= 255; c++) {
            boolean begins = "phslamd".indexOf(c) >= 0;
            DUE.told(String.valueOf(c), begins ? -1001 : -1000);
            DUE.told("s00;" + c, begins ? -1005 : -1004);
        }
    }

    private static void places() {
        DUE.terms("\"p\" a CELL (2 digits): a PLACE more;");
        DUE.are(Due.of("p00;p63;p09;p10;p00;"), "count(0) 5", "place(0) 0", "place(1) 63", "place(2) 9", "place(3) 10",
            "place(4) 0");
        DUE.told("p64;", -2000);
        DUE.told("p99;", -2000);
        digits("p", "0;", 1);
        digits("p0", ";", 2);
        DUE.told("p0;", -1002);
        DUE.told("p000;", -1003);
    }

    private static void hands() {
        DUE.terms("\"h\" a letter of a KIND, FIGURE, a PLACE (a digit each): a HAND more;");
        for (char c = 0; c <= 255; c++) {
            int kind = "hbmwqd".indexOf(c);
            NeedleToTheMissed x = new NeedleToTheMissed();
            DUE.is("p00;h" + c + "00;", Due.tell(x, "p00;h" + c + "00;"), kind >= 0 ? 2 : -1005);
            DUE.is("KIND by " + c, x.hand(0, 0), kind >= 0 ? kind : -1);
        }
        digits("p00;hh", "0;", 6);
        digits("p00;hh0", ";", 7);
        DUE.told("p00;hh0;", -1007);
        DUE.told("p00;hh000;", -1008);
        DUE.are(Due.of("p00;p01;p02;p03;p04;p05;hh05;hh90;"), "hand(0, 1) 0", "hand(0, 2) 5", "hand(1, 1) 9",
            "hand(1, 2) 0", "hand(1, 3) 0", "hand(1, 4) 1");
        DUE.told("hh00;", -2000);
        DUE.told("p00;hh01;", -2004);
        DUE.told("p00;hh09;", -2004);
        DUE.told(SIX_PLACES + "hh05;", 7);
        DUE.told(SIX_PLACES + "hh06;", -2024);
    }

    private static void ships() {
        DUE.terms("\"s\" a CELL (2 digits): THE SHIP is AT it;");
        DUE.are(Due.of("s63;"), "count(3) 63");
        DUE.are(Due.of("s63;s00;"), "count(3) 0");
        DUE.told("s64;", -2000);
        DUE.told("s99;", -2000);
        digits("s", "0;", 1);
        digits("s0", ";", 2);
        DUE.told("s0;", -1002);
        DUE.told("s000;", -1003);
    }

    private static void ofHands() {
        String full = SIX_PLACES + SEVEN_HANDS;
        DUE.terms("\"l\" a HAND (a digit): a LETTER of his is dropped;");
        DUE.are(Due.of(full + "d09;l6;"), "hand(6, 3) 4", "hand(5, 3) 9");
        DUE.told("l0;", -2000);
        DUE.told(full + "l7;", -2059);
        DUE.told(full + "l9;", -2059);
        digits("p00;hh00;l", ";", 10);
        DUE.told("l;", -1001);
        DUE.told("l00;", -1002);
        DUE.terms("\"a\" a HAND (a digit): ABOARD, or, told again, ashore;");
        DUE.are(Due.of(full + "a6;"), "count(4) 63");
        DUE.are(Due.of(full + "a0;a6;a0;"), "count(4) 63");
        DUE.told("a0;", -2000);
        DUE.told(full + "a7;", -2059);
        digits("p00;hh00;a", ";", 10);
        DUE.told("a00;", -1002);
        DUE.terms("\"m\" a HAND, a PLACE (a digit each): he MISSES that;");
        DUE.are(Due.of(full + "m65;"), "hand(6, 2) 5", "hand(5, 2) 0");
        DUE.told("m00;", -2000);
        DUE.told(full + "m66;", -2059);
        DUE.told(full + "m75;", -2059);
        DUE.told("p00;m00;", -2004);
        digits("p00;hh00;m", "0;", 10);
        digits("p00;hh00;m0", ";", 11);
        DUE.told("m0;", -1002);
        DUE.told("m000;", -1003);
    }

    private static void daysInAText() {
        DUE.terms("\"d\" DAYS (2 digits, 1 .. 60): they go by.");
        DUE.are(Due.of("d01;"), "count(2) 1");
        DUE.are(Due.of("d60;"), "count(2) 60");
        DUE.told("d00;", -2000);
        DUE.told("d61;", -2000);
        DUE.told("d99;", -2000);
        digits("d", "1;", 1);
        digits("d0", ";", 2);
        DUE.told("d1;", -1002);
        DUE.told("d001;", -1003);
        DUE.are(Due.of("p07;hh00;d03;"), "count(3) 3", "hand(0, 3) 3");
    }

    /** Behind the text only a digit goes on: the signs next to 0 and 9 do not. */
    private static void digits(String ahead, String behind, int at) {
        DUE.told(ahead + "/" + behind, -1000 - at);
        DUE.told(ahead + ":" + behind, -1000 - at);
        DUE.told(ahead + " " + behind, -1000 - at);
        DUE.told(ahead + (char) ('0' + 128) + behind, -1000 - at);
        for (char c = '0'; c <= '9'; c++) {
            int answer = Due.tell(new NeedleToTheMissed(), ahead + c + behind);
            DUE.holds(ahead + c + behind + " has no FAULT of form: " + answer, answer > 0 || answer <= -2000);
        }
    }

    private static void faultsOfForm() {
        DUE.terms("At least one STATEMENT.");
        DUE.told("", -1000);
        DUE.told(";", -1000);
        DUE.told("s00;", 1);
        DUE.terms("FAULT: kind 1 the place of the first letter with which no SEA can go on");
        DUE.told("p64;x", -1004);
        DUE.told("hh00;l0;x", -1008);
        DUE.told("p64;p6x;x", -1006);
        DUE.told("d01;".repeat(23) + "d01x", -1095);
        DUE.told("d01;".repeat(23) + "x", -1092);
    }

    private static void faultsAtTheEnd() {
        DUE.terms("(the end, if something lacks): -1000 less the place;");
        String text = "p00;hh00;s00;l0;a0;m00;d01;";
        int[] ends = {4, 9, 13, 16, 19, 23, 27};
        for (int length = 0; length <= text.length(); length++) {
            int statements = 0;
            boolean whole = false;
            for (int end : ends) {
                statements += end <= length ? 1 : 0;
                whole |= end == length;
            }
            DUE.told(text.substring(0, length), whole ? statements : -1000 - length);
        }
        DUE.told("p64;p", -1005);
        DUE.told("d01;".repeat(23) + "d01", -1095);
        // 96 letters are the end, too.
        DUE.told("d01;".repeat(22) + "hh00;d01", -1096);
        DUE.told("s00;".repeat(22) + "hh00;hh0", -1096);
    }

    private static void faultsOfSense() {
        DUE.terms("else kind 2 the place of the first letter of the first STATEMENT that, behind all ahead of it in the"
            + " text, is not as it must be");
        DUE.told("hh00;p00;", -2000);
        DUE.told("p00;hh01;p01;", -2004);
        DUE.told("p00;p01;hh01;", 3);
        DUE.told("p00;hh00;l1;hh00;", -2009);
        DUE.told("p00;hh00;hh00;l1;", 4);
        DUE.told("p00;hh00;m01;p01;", -2009);
        DUE.told("p00;hh00;p01;m01;", 4);
        DUE.told("s64;p64;", -2000);
        DUE.told("s63;p64;s64;", -2004);
        DUE.told("d01;".repeat(23) + "d00;", -2092);
        DUE.is("the last of 32", Due.tell(Due.of("p00;hh00;"), "a0;".repeat(31) + "a1;"), -2093);
        DUE.terms("(a number out of range, no such PLACE, HAND so far,");
        DUE.told("p00;hh00;s64;", -2009);
        DUE.told("p00;hh00;m01;", -2009);
        DUE.told("p00;hh00;m10;", -2009);
    }

    private static void dayAbove999() {
        DUE.terms("DAY above 999, no room for more): -2000 less the place.");
        String near = "d60;".repeat(15) + "d39;";
        DUE.are(Due.of(near), "count(2) 939");
        NeedleToTheMissed x = Due.of(near);
        DUE.is("940 and 60", Due.tell(x, "d01;d60;"), -2004);
        DUE.is("939 and 60", Due.tell(x, "d60;"), 1);
        DUE.is("count(2)", x.count(2), 999);
        DUE.is("999 and 1", Due.tell(x, "s09;d01;"), -2004);
        DUE.is("count(3)", x.count(3), 0);
        x = Due.of(near);
        DUE.is("998 and 1", Due.tell(x, "d59;d01;"), 2);
        DUE.is("count(2)", x.count(2), 999);
        x = Due.of(near);
        DUE.is("998 and 2", Due.tell(x, "d59;d02;"), -2004);
        DUE.is("count(2)", x.count(2), 939);
    }

    private static void noRoom() {
        DUE.terms("PLACES 0 .. as they come (6 at most): a CELL.");
        DUE.told(SIX_PLACES, 6);
        DUE.told(SIX_PLACES + "p06;", -2024);
        NeedleToTheMissed x = Due.of("p00;p01;p02;p03;p04;");
        DUE.is("two to five", Due.tell(x, "p05;p06;"), -2004);
        DUE.is("count(0)", x.count(0), 5);
        DUE.is("one to five", Due.tell(x, "p05;"), 1);
        DUE.is("one to six", Due.tell(x, "p06;"), -2000);
        DUE.are(x, "count(0) 6", "place(5) 5", "place(6) -1");
        DUE.terms("HANDS 0 .. as they come (7 at most): KIND, FIGURE (0 .. 9), MISSES one of the PLACES,");
        DUE.told("p00;" + SEVEN_HANDS, 8);
        DUE.told("p00;" + SEVEN_HANDS + "hh00;", -2039);
        x = Due.of("p00;hh00;hh00;hh00;hh00;hh00;hh00;");
        DUE.is("two to six", Due.tell(x, "hb90;hh00;"), -2005);
        DUE.is("count(1)", x.count(1), 6);
        DUE.is("one to six", Due.tell(x, "hb90;"), 1);
        DUE.is("one to seven", Due.tell(x, "hh00;"), -2000);
        DUE.are(x, "count(1) 7", "hand(6, 0) 1", "hand(6, 1) 9", "hand(7, 0) -1");
    }

    private static void allOrNothing() {
        DUE.terms("Without FAULT all of it comes, with one nothing.");
        String text = "p09;hb90;s12;d02;l0;a0;m01;";
        NeedleToTheMissed x = Due.of("p40;p41;hh00;d05;");
        NeedleToTheMissed twin = Due.of("p40;p41;hh00;d05;");
        DUE.is("a FAULT behind all", Due.tell(x, text + "p64;"), -2027);
        DUE.is("a FAULT behind all", Due.tell(x, text + "p6"), -1029);
        DUE.holds("nothing came", Seas.seen(x).equals(Seas.seen(twin)));
        x = Due.of("p40;p41;hh00;d05;");
        DUE.is("without", Due.tell(x, text), 7);
        DUE.are(x, "count(0) 3", "count(1) 2", "count(2) 7", "count(3) 10", "count(4) 2", "hand(0, 3) 3", "hand(0, 2) 1",
            "hand(0, 4) 0", "hand(1, 0) 1", "hand(1, 3) 2", "place(2) 9");
    }
}
