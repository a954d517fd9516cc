/** The boundary cases of promises 19 to 21, 27 and 31: crew, ashore, letters, sign, two. */
public final class BoundsOfChoicesTest {
    private static final Due DUE = new Due();
    private static final String SIX_HANDS = "hm00;hm00;hm00;hm00;hm00;hm00;";

    public static void main(String[] args) {
        fewestCrew();
        crewWithinDays();
        ashore();
        ashoreWithinSixty();
        fewestLetters();
        lettersWithinDays();
        sign();
        signWithinSixty();
        two();
        twoWithinDays();
        DUE.end();
    }

    private static void fewestCrew() {
        DUE.terms("CREW for a PLACE: the fewest of all HANDS (bits, of several the least) who alone ABOARD bring THE SHIP"
            + " AT it within n DAYS (0 .. 30); -9.");
        DUE.promise(19, "CREW (bits; -9). -1; -4; -6 30.");
        DUE.are(Due.of("p00;"), "crew(0, 0) 0", "crew(0, 30) 0");
        DUE.are(Due.of("p01;"), "crew(0, 30) -9");
        // Alike each: the least bits, hand 0; and of those ashore, too.
        NeedleToTheMissed x = Due.of("p01;hh00;hh00;hh00;hh00;hh00;hh00;hh00;");
        DUE.are(x, "crew(0, 1) 1", "turn(0, 2, 0) 0", "crew(0, 1) 2", "turn(1, 2, 0) 0", "crew(0, 1) 4",
            "turn(2, 2, 0) 0", "turn(3, 2, 0) 0", "turn(4, 2, 0) 0", "turn(5, 2, 0) 0", "crew(0, 1) 64",
            "boards(6) 0", "crew(0, 1) 64", "turn(6, 2, 0) 0", "crew(0, 1) -9", "sails(1) 0", "crew(0, 0) 0");
        // Two of three corners' pulls: 1 and 2 are 6, less than 8; one with greater bits goes ahead of both.
        x = Due.of("p09;p07;p56;p09;hh01;hh02;hm00;");
        DUE.are(x, "crew(0, 2) 3");
        Due.tell(x, "hh00;");
        DUE.are(x, "crew(0, 2) 8");
        x = Due.of("p44;p08;p19;hd51;d23;hq41;hw20;hq81;hh30;hd10;hb50;a2;");
        DUE.are(x, "crew(2, 30) 127", "count(4) 123");
        x = Due.of("p33;p27;p21;hd22;hw20;hq62;hh72;hd12;s08;");
        DUE.are(x, "crew(1, 30) 31");
    }

    private static void crewWithinDays() {
        NeedleToTheMissed x = Due.of("p30;p12;p11;hw70;d15;hd82;");
        DUE.are(x, "crew(1, 0) -9", "crew(1, 29) -9", "crew(1, 30) 3", "crew(1, 31) -6", "crew(1, -1) -4");
        x = Due.of("p48;p07;p60;hq31;d22;hd12;");
        DUE.are(x, "crew(0, 30) -9");
        x = Due.of("p47;p46;p28;hh20;hm01;hh22;d24;hd90;a0;");
        DUE.are(x, "crew(1, 29) 13", "crew(1, 30) 12");
        x = Due.of("p03;hh00;");
        DUE.are(x, "crew(0, 2) -9", "crew(0, 3) 1");
    }

    private static void ashore() {
        DUE.terms("ASHORE: the HAND who, ashore from now, brings it AT a PLACE soonest (within 60), sooner than else,"
            + " of several the least; -9.");
        DUE.promise(20, "ASHORE; -9. -1.");
        DUE.are(Due.of("p09;"), "ashore(0) -9");
        DUE.are(Due.of("p00;hb00;"), "ashore(0) -9");
        // Quarrellers alike: without either it comes; of several the least.
        NeedleToTheMissed x = Due.of("p01;hb00;hq00;hq00;");
        DUE.are(x, "comes(0) -9", "ashore(0) 1", "boards(1) 0", "comes(0) 1", "ashore(0) -9", "boards(1) 1",
            "boards(2) 0", "ashore(0) -9", "turn(1, 4, 9) 40", "ashore(0) 1");
        // The seventh.
        x = Due.of("p01;hh00;hm00;hm00;hm00;hm00;hm00;hq00;");
        DUE.are(x, "ashore(0) 6", "boards(6) 0", "ashore(0) -9");
        // Sooner by one day, and not sooner.
        x = Due.of("p36;p20;p30;hh41;d22;hw70;d31;");
        DUE.are(x, "comes(0) 60", "ashore(0) 0", "boards(0) 0", "comes(0) 1");
        x = Due.of("p44;p58;p25;hq41;d36;hb02;d26;hq32;d17;hb41;hd70;");
        DUE.are(x, "comes(0) 60", "ashore(0) 0", "boards(0) 0", "comes(0) 59");
        x = Due.of("p05;hh00;hh00;");
        DUE.are(x, "comes(0) 5", "ashore(0) -9");
        DUE.are(x, "ashore(1) -1", "ashore(-1) -1");
        // Who is ashore stays there: nobody else brings it sooner, though he would if he came aboard.
        x = Due.of("p05;hh00;hm00;a0;");
        DUE.are(x, "comes(0) -9", "ashore(0) -9", "boards(0) 1", "comes(0) 5");
    }

    private static void ashoreWithinSixty() {
        NeedleToTheMissed x = Due.of("p59;p03;p21;hh82;hw91;d39;hb20;");
        DUE.are(x, "comes(0) -9", "ashore(0) 0", "boards(0) 0", "comes(0) 60");
        x = Due.of("p44;hq10;d34;hq80;hw80;d35;s57;");
        DUE.are(x, "comes(0) -9", "ashore(0) -9", "boards(1) 0", "comes(0) -9", "days(1) 56", "comes(0) 60");
    }

    private static void fewestLetters() {
        DUE.terms("LETTERS for a PLACE: the fewest HANDS (bits, of several the least) each of whom drops one LETTER now so"
            + " that THE SHIP is AT it within n DAYS (0 .. 30); -9.");
        DUE.promise(21, "LETTERS (bits; -9). -1; -4; -6 30.");
        DUE.are(Due.of("p00;"), "letters(0, 0) 0", "letters(0, 30) 0", "letters(1, 0) -1", "letters(-1, 0) -1");
        DUE.are(Due.of("p01;"), "letters(0, 30) -9");
        DUE.are(Due.of("p01;hh00;"), "letters(0, 0) -9", "letters(0, 1) 0", "letters(0, -1) -4", "letters(0, 31) -6");
        // Only the seventh's SEA keeps it from the place: 8 lean 2, half 4 lean 1.
        NeedleToTheMissed x = Due.of("p01;hm00;hm00;hm00;hm00;hm00;hq00;d08;s00;");
        Due.tell(x, "hh00;");
        DUE.are(x, "leans(5) -2", "leans(6) 1", "letters(0, 1) -9", "turn(6, 1, 0) 0", "letters(0, 1) 32",
            "hand(5, 3) 8");
        x = Due.of("p01;hm00;hm00;hm00;hm00;hm00;hh00;hq00;d08;");
        DUE.are(x, "count(3) 0", "leans(5) 2", "leans(6) -2", "letters(0, 1) 64");
        // SEA 8 of both quarrellers: one letter is enough, of several the least; a third one's greater bits.
        x = Due.of("p01;hq00;hq00;d08;s00;hb00;hw30;");
        DUE.are(x, "letters(0, 1) 1", "turn(0, 4, 3) 40", "letters(0, 1) 3");
        x = Due.of("p17;p53;hq30;d37;hw91;hb10;hb50;hq21;hq71;hq40;d27;s60;");
        DUE.are(x, "letters(1, 30) 125");
    }

    private static void lettersWithinDays() {
        NeedleToTheMissed x = Due.of("p20;hq40;d38;hb70;");
        DUE.are(x, "letters(0, 29) -9", "letters(0, 30) 1", "letters(0, 31) -6", "count(5) 38");
        DUE.are(Due.of("p31;p01;hh51;hq91;hh60;"), "comes(0) 31", "letters(0, 30) -9");
        DUE.are(Due.of("p53;hq30;d31;hb60;"), "letters(0, 30) -9", "drops(0) 15", "comes(0) 31");
        x = Due.of("p33;hq70;hw80;hq70;d30;hb00;");
        DUE.are(x, "letters(0, 29) 5", "letters(0, 30) 1");
    }

    private static void sign() {
        DUE.terms("SIGN: the KIND of a HAND more (FIGURE 5, SEA 0, ABOARD; 7 there are: none) who, MISSING a told PLACE,"
            + " brings THE SHIP AT that soonest (within 60), of several the least; -9 none does; when.");
        DUE.promise(27, "SIGN: the KIND (what 0; -9), when (1; -9). -1; -2.");
        NeedleToTheMissed x = Due.of("p14;");
        DUE.are(x, "sign(0, 0) 0", "sign(0, 1) 7", "sails(14) 0", "sign(0, 0) 0", "sign(0, 1) 0", "sign(1, 0) -1",
            "sign(-1, 0) -1", "sign(0, 2) -2", "sign(0, -1) -2", "count(1) 0");
        x = Due.of("p14;" + SIX_HANDS);
        DUE.are(x, "sign(0, 0) 0", "sign(0, 1) 7", "count(1) 6");
        Due.tell(x, "hm00;");
        DUE.are(x, "sign(0, 0) -9", "sign(0, 1) -9", "sails(14) 0", "sign(0, 0) -9", "sign(0, 1) -9", "count(1) 7");
        // FIGURE 5: a whaler's lean is 2 at first, as a boy's; against a whaler with 5, neither; a drunk is near.
        x = Due.of("p05;p00;hw51;s03;");
        DUE.are(x, "sign(0, 0) 5", "sign(0, 1) 2", "turn(0, 3, 2) 35", "sign(0, 0) 1", "sign(0, 1) 2");
        // Of several the least: a boy and a whaler are as soon, with hands and without.
        x = Due.of("p05;p00;hh01;s03;");
        DUE.are(x, "sign(0, 0) 1", "sign(0, 1) 2");
        // With less than 3 for a FIGURE the whaler would not bring it, with 6 or more he would be ahead of the boy.
        DUE.are(Due.of("p40;p27;hq61;d08;hd41;hq90;"), "sign(1, 0) 3", "sign(1, 1) 36");
        DUE.are(Due.of("p11;hq30;"), "sign(0, 0) 1", "sign(0, 1) 9");
        // A quarreller can bring it, too, with others' pull.
        DUE.are(Due.of("p13;p33;hd81;hq50;d03;hd60;d12;s39;"), "sign(1, 0) 4", "sign(1, 1) 10");
    }

    private static void signWithinSixty() {
        NeedleToTheMissed x = Due.of("p07;hq90;d38;");
        DUE.are(x, "sign(0, 0) 1", "sign(0, 1) 60");
        x = Due.of("p35;hq90;d39;");
        DUE.are(x, "sign(0, 0) -9", "sign(0, 1) -9");
        Due.tell(x, "hb50;");
        DUE.are(x, "comes(0) -9", "days(1) 0", "comes(0) 60");
        x = Due.of("p11;p08;hh70;hq71;d35;");
        DUE.are(x, "sign(1, 0) 5", "sign(1, 1) 60");
        x = Due.of("p12;p63;p50;hw92;hm00;d32;hd11;d22;hd70;");
        DUE.are(x, "sign(1, 0) 0", "sign(1, 1) 60");
    }

    private static void two() {
        DUE.terms("TWO HANDS, each drops a LETTER now (1) or not (0), the first ahead: each wants THE SHIP nearest to the"
            + " PLACE he MISSES behind n DAYS (0 .. 30): the first pair (10 the first's and the other's) by which"
            + " neither has it nearer by another one alone; -9.");
        DUE.promise(31, "TWO; -9. -1 either (one twice, too); -4; -6 30.");
        NeedleToTheMissed x = Due.of("p09;hh00;hh00;hh00;hh00;hh00;hh00;hh00;");
        DUE.are(x, "two(0, 6, 0) 0", "two(6, 0, 30) 0", "two(6, 6, 0) -1", "two(0, 0, 0) -1", "two(0, 7, 0) -1",
            "two(7, 0, 0) -1", "two(-1, 0, 0) -1", "two(0, -1, 0) -1", "two(0, 1, -1) -4", "two(0, 1, 31) -6",
            "two(7, 7, 31) -1", "count(11) 7", "count(14) 1", "count(16) 1");
        DUE.are(Due.of("p09;hh00;"), "two(0, 1, 0) -1", "two(0, 0, 0) -1");
        // The quarreller's lean is 2 against the hand's 2; behind no day all pairs are alike.
        x = Due.of("p31;hq00;d03;hh00;d05;s27;");
        DUE.are(x, "two(0, 1, 0) 0", "two(0, 1, 1) 10", "two(1, 0, 1) 1");
        DUE.are(Due.of("p31;hh00;d02;hq00;hq00;d08;s27;"), "two(1, 2, 1) 11", "two(1, 2, 0) 0");
        DUE.are(Due.of("p58;p28;hb11;hd40;d39;s51;"), "two(0, 1, 2) -9", "two(0, 1, 0) 0");
        // A letter to one ashore moves nothing, so that he keeps none.
        DUE.are(Due.of("p31;hq00;d03;hh00;d05;s27;a1;"), "two(0, 1, 30) 0", "two(1, 0, 30) 0");
    }

    private static void twoWithinDays() {
        DUE.are(Due.of("p39;hb40;d06;hq60;hq60;d10;"), "two(1, 2, 29) 0", "two(1, 2, 30) 11");
        DUE.are(Due.of("p03;p27;hh41;d02;hh10;"), "two(0, 1, 29) 0", "two(0, 1, 30) 10", "two(1, 0, 29) 0",
            "two(1, 0, 30) 1");
        DUE.are(Due.of("p32;p60;hh00;hb41;d28;"), "two(0, 1, 29) 0", "two(0, 1, 30) -9");
        DUE.are(Due.of("p63;p11;hd50;hq31;hw91;d11;"), "two(0, 1, 29) 1", "two(1, 0, 29) 10", "two(0, 1, 30) -9");
    }
}
