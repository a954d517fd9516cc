/** The boundary cases of promises 12 to 18 and 30 and of what the Terms say of THE NEEDLE and a DAY. */
public final class BoundsOfDaysTest {
    private static final Due DUE = new Due();

    /** Each gets somewhere first behind just 60 days, or would behind 61. */
    private static final String COMES_AT_60 = "p45;hq60;d40;hb40;";
    private static final String COMES_AT_61 = "p49;p04;hq90;d39;hb80;";
    private static final String SPINS_AT_60 = "p35;hq10;d28;hd60;d35;";
    private static final String SPINS_AT_61 = "p49;hq50;d19;hw30;d34;";
    private static final String RESTS_AT_60 = "p05;p47;hh01;d38;hh50;d36;";
    private static final String RESTS_AT_61 = "p01;p20;hh61;d19;hw60;d25;";
    private static final String NEVER_RESTS = "p27;p13;hb41;hw20;";

    public static void main(String[] args) {
        rowsAgainstColumns();
        spins();
        theGreatestSums();
        sidesOfTheSea();
        aDay();
        daysGoBy();
        needle();
        thoughts();
        comes();
        door();
        firstSpin();
        firstRest();
        way();
        DUE.end();
    }

    /** ROWS and COLUMNS are told by the pulls of three: each to a PLACE of the four about 27. */
    private static void rowsAgainstColumns() {
        DUE.terms("It points: if ROWS are farther from 0 than COLUMNS: 0 to lesser rows (below 0), 2 to greater ones;"
            + " else, if COLUMNS are not 0: 1 to greater columns, 3 to lesser ones; else it SPINS (-9).");
        // Lean 2 and 1, straight up, down, right, left of 27, then none.
        String[] up = {"b19 h28", "b19 h26", "b19", "h19 h28", "h19 h26", "h19", "h19 b28", "h19 b26", "h26", "h28"};
        int[] upNeedles = {0, 0, 0, 1, 3, 0, 1, 3, 3, 1};
        String[] down = {"b35 h28", "b35 h26", "b35", "h35 h28", "h35 h26", "h35", "h35 b28", "h35 b26", "b26", "b28"};
        int[] downNeedles = {2, 2, 2, 1, 3, 2, 1, 3, 3, 1};
        for (int i = 0; i < up.length; i++) {
            DUE.is("needle of " + up[i], about27(up[i]).needle(), upNeedles[i]);
            DUE.is("needle of " + down[i], about27(down[i]).needle(), downNeedles[i]);
        }
        // A corner pulls both ways: columns, if alike.
        DUE.is("needle to 18", about27("h18").needle(), 3);
        DUE.is("needle to 20", about27("h20").needle(), 1);
        DUE.is("needle to 34", about27("h34").needle(), 3);
        DUE.is("needle to 36", about27("h36").needle(), 1);
        DUE.is("needle to 36 and 35", about27("h36 h35").needle(), 2);
        DUE.is("needle to 18 and 19", about27("h18 h19").needle(), 0);
    }

    private static NeedleToTheMissed about27(String pulls) {
        StringBuilder text = new StringBuilder();
        int place = 0;
        for (String pull : pulls.split(" ")) {
            text.append('p').append(pull, 1, 3).append(";h").append(pull.charAt(0)).append('0').append(place).append(';');
            place++;
        }
        return Due.of(text.append("s27;").toString());
    }

    private static void spins() {
        DUE.terms("THE NEEDLE: of all who are ABOARD:");
        DUE.is("nobody", new NeedleToTheMissed().needle(), -9);
        DUE.is("only masters", about27("m19 m28").needle(), -9);
        DUE.is("at the place", about27("h27").needle(), -9);
        DUE.is("up and down", about27("h19 h35").needle(), -9);
        DUE.is("left and right", about27("h26 h28").needle(), -9);
        DUE.is("all four ways", about27("b19 b26 b28 b35").needle(), -9);
        DUE.is("a hand and a quarreller", about27("h20 q20").needle(), -9);
        NeedleToTheMissed x = about27("h19 b28");
        DUE.are(x, "needle() 1", "boards(1) 0", "needle() 0", "boards(0) 0", "needle() -9", "days(1) 27", "count(2) 1",
            "boards(1) 1", "needle() 1");
    }

    private static void theGreatestSums() {
        DUE.terms("ROWS: LEANS of each to a PLACE in a greater row less those to one in a lesser row; COLUMNS likewise.");
        NeedleToTheMissed x = Due.of("p00;hd00;hd00;hd00;hd00;hd00;hd00;hd00;d60;d39;s10;");
        DUE.are(x, "pull(0) -560", "pull(1) -560", "needle() 3", "missed(1) 560", "sails(8) 10", "pull(0) -560",
            "pull(1) 0", "needle() 0", "sails(1) 8", "pull(0) 0", "pull(1) -560", "sails(0) 1", "pull(0) 0", "pull(1) 0");
        x = Due.of("p63;hq90;hq90;hq90;hq90;hq90;hq90;hq90;d60;d39;s00;");
        DUE.are(x, "pull(0) -161", "pull(1) -161", "needle() 3", "missed(1) -161", "days(60) 0");
    }

    /** Where the sea ends, the needle may point on, but the ship stays; rows are not joined. */
    private static void sidesOfTheSea() {
        DUE.terms("THE SHIP goes one CELL that way, if there is one;");
        for (int side = 0; side < 8; side++) {
            staysAt(side, side + 8, 0);
            staysAt(56 + side, 48 + side, 2);
            staysAt(8 * side, 8 * side + 1, 3);
            staysAt(8 * side + 7, 8 * side + 6, 1);
        }
        DUE.are(Due.of("p16;hh00;s23;"), "days(1) 22", "shipThen(6) 16", "shipThen(7) 16");
        DUE.are(Due.of("p23;hh00;s16;"), "days(1) 17", "shipThen(6) 23", "shipThen(7) 23");
        DUE.are(Due.of("p02;hh00;s58;"), "days(1) 50", "shipThen(6) 2", "shipThen(7) 2");
        DUE.are(Due.of("p58;hh00;s02;"), "days(1) 10", "shipThen(6) 58", "shipThen(7) 58");
    }

    /** A quarreller who misses the next cell inwards pulls outwards. */
    private static void staysAt(int cell, int inwards, int needle) {
        NeedleToTheMissed x = Due.of(String.format("p%02d;hq00;s%02d;", inwards, cell));
        DUE.are(x, "needle() " + needle, "way(60) 0", "door(2) 0", "days(1) " + cell, "days(60) " + cell,
            "hand(0, 3) 61");
    }

    private static void aDay() {
        DUE.terms("A DAY: DAY is 1 more;");
        DUE.are(new NeedleToTheMissed(), "days(1) 0", "count(2) 1", "days(1) 0", "count(2) 2");
        // It goes by the needle as it points ahead of the day: SEA 4 and 5 make a difference only a day later.
        NeedleToTheMissed x = Due.of("p19;hh00;d04;p28;hh01;s27;");
        DUE.are(x, "leans(0) 1", "leans(1) 1", "days(1) 28", "leans(0) 2", "leans(1) 1", "sails(27) 28", "days(1) 19");
    }

    private static void daysGoBy() {
        DUE.promise(12, "n DAYS (1 .. 60) go by: where THE SHIP is. -4; -6 (60; DAY above 999).");
        NeedleToTheMissed x = Due.of("p63;hh00;");
        DUE.are(x, "days(0) -4", "days(-1) -4", "days(61) -6", "count(2) 0", "days(1) 1", "days(60) 63", "count(2) 61",
            "hand(0, 3) 61", "days(60) 63", "hand(0, 3) 99");
        Due.tell(x, "d60;d60;d60;d60;d60;d60;d60;d60;d60;d60;d60;d60;d60;d38;");
        DUE.are(x, "count(2) 939", "days(61) -6", "days(60) 63", "count(2) 999", "days(1) -6", "days(0) -4",
            "count(2) 999");
        x = Due.of("d60;d60;d60;d60;d60;d60;d60;d60;d60;d60;d60;d60;d60;d60;d60;d40;");
        DUE.are(x, "count(2) 940", "days(60) -6", "count(2) 940", "days(59) 0", "count(2) 999");
        x = Due.of("d60;d60;d60;d60;d60;d60;d60;d60;d60;d60;d60;d60;d60;d60;d60;d60;d38;");
        DUE.are(x, "count(2) 998", "days(2) -6", "days(1) 0", "count(2) 999", "days(greatest) -6", "count(16) 2",
            "image() 999", "on() 999");
    }

    private static void needle() {
        DUE.promise(13, "Where it points; -9 it SPINS.");
        DUE.are(new NeedleToTheMissed(), "needle() -9");
        DUE.are(Due.of("p00;hq00;s09;"), "needle() 1");
        DUE.are(Due.of("p00;hh00;s09;"), "needle() 3");
        DUE.are(Due.of("p01;hh00;s09;"), "needle() 0");
        DUE.are(Due.of("p01;hq00;s09;"), "needle() 2");
    }

    private static void thoughts() {
        NeedleToTheMissed x = Due.of("p07;p56;hh00;hb01;d60;s00;a1;");
        DUE.terms("In mind, n DAYS on (0 .. 60): where THE SHIP is; where THE NEEDLE points (-9); SEA of a HAND.");
        DUE.promise(14, "Where THE SHIP is. -4; -6 60.");
        DUE.are(x, "shipThen(0) 0", "shipThen(1) 1", "shipThen(60) 7", "shipThen(-1) -4", "shipThen(61) -6",
            "count(3) 0");
        DUE.promise(15, "Where THE NEEDLE points; -9. -4; -6 60.");
        DUE.are(x, "needleThen(0) 1", "needleThen(6) 1", "needleThen(7) -9", "needleThen(60) -9", "needleThen(-1) -4",
            "needleThen(61) -6", "needle() 1");
        DUE.promise(16, "SEA. -1; -4; -6 60.");
        DUE.are(x, "seaThen(0, 0) 60", "seaThen(0, 38) 98", "seaThen(0, 39) 99", "seaThen(0, 40) 99",
            "seaThen(0, 60) 99", "seaThen(1, 0) 60", "seaThen(1, 59) 1", "seaThen(1, 60) 0", "drops(1) 30",
            "seaThen(1, 30) 0", "seaThen(1, 60) 0", "seaThen(2, 0) -1", "seaThen(-1, 0) -1", "seaThen(0, -1) -4",
            "seaThen(0, 61) -6", "seaThen(2, 61) -1", "count(5) 90");
        DUE.terms("(In thought DAY may pass 999.)");
        x = Seas.full();
        NeedleToTheMissed early = Due.of(Seas.FULL_TEXT);
        early.boards(6);
        for (int i = 0; i < 15; i++) {
            early.days(60);
        }
        early.days(39);
        DUE.are(x, "count(2) 999");
        DUE.are(early, "count(2) 939");
        // Both have gone the same way for long: what is thought at 999 is what is thought at 939.
        String[] thoughts = {"shipThen(60)", "needleThen(60)", "seaThen(0, 60)", "seaThen(6, 60)", "comes(3)", "way(60)",
            "door(0)", "door(1)", "door(2)", "crew(3, 30)", "ashore(1)", "letters(2, 30)", "two(0, 1, 30)",
            "storm(5, 7, 20, 0)", "lots(20, 9, 1)"};
        early.sails(x.count(3));
        for (String call : thoughts) {
            DUE.is(call + " at DAY 999", Calls.call(x, call), Calls.call(early, call));
        }
        DUE.are(x, "count(16) 0");
    }

    private static void comes() {
        DUE.terms("COMES: behind how many DAYS (0 .. 60) THE SHIP is AT a PLACE first; -9;");
        DUE.promise(17, "COMES; -9. -1.");
        DUE.are(Due.of("p00;hh00;"), "comes(0) 0", "comes(1) -1", "comes(-1) -1");
        DUE.are(Due.of("p01;hh00;"), "comes(0) 1");
        DUE.are(Due.of("p63;hh00;"), "comes(0) 14");
        DUE.are(Due.of("p63;"), "comes(0) -9");
        DUE.are(Due.of(COMES_AT_60), "comes(0) 60", "shipThen(59) 37", "shipThen(60) 45");
        DUE.are(Due.of(COMES_AT_61), "comes(0) -9", "days(1) 0", "comes(0) 60", "days(1) 0", "comes(0) 59");
        // It passes over the first place and back: only the first time counts.
        NeedleToTheMissed x = Due.of("p01;p03;hh01;");
        DUE.are(x, "comes(0) 1", "comes(1) 3", "days(1) 1", "comes(0) 0", "days(1) 2", "comes(0) -9", "comes(1) 1");
    }

    private static void door() {
        DUE.terms("DOOR: the PLACE it is AT first, of several the least; -9.");
        DUE.promise(18, "DOOR (what 0; -9),");
        DUE.are(new NeedleToTheMissed(), "door(0) -9");
        DUE.are(Due.of("p00;"), "door(0) 0");
        DUE.are(Due.of("p01;"), "door(0) -9");
        DUE.are(Due.of("p09;p00;p00;"), "door(0) 1");
        DUE.are(Due.of("p07;p06;p05;p06;p05;p07;hh00;"), "door(0) 2", "sails(6) 0", "door(0) 1", "sails(7) 6",
            "door(0) 0");
        DUE.are(Due.of("p63;p62;p61;p60;p59;p03;hh05;"), "door(0) 5", "comes(5) 3");
        DUE.are(Due.of(COMES_AT_60), "door(0) 0");
        DUE.are(Due.of(COMES_AT_61), "door(0) -9", "days(1) 0", "door(0) 0");
    }

    private static void firstSpin() {
        DUE.terms("SPINS: behind how many DAYS (0 .. 60) THE NEEDLE SPINS first; -9.");
        DUE.promise(18, "SPINS (1; -9),");
        DUE.are(new NeedleToTheMissed(), "door(1) 0");
        DUE.are(Due.of("p07;hh00;"), "door(1) 7", "days(6) 6", "door(1) 1", "days(1) 7", "door(1) 0");
        DUE.are(Due.of("p07;hq00;s06;"), "door(1) -9");
        DUE.are(Due.of(SPINS_AT_60), "door(1) 60", "needleThen(60) -9", "days(1) 0", "door(1) 59");
        DUE.are(Due.of(SPINS_AT_61), "door(1) -9", "days(1) 0", "door(1) 60");
    }

    private static void firstRest() {
        DUE.terms("RESTS: the first n (0 .. 60) behind which THE SHIP does not go in a DAY; -9.");
        DUE.promise(18, "RESTS (2; -9). -2.");
        DUE.are(new NeedleToTheMissed(), "door(2) 0", "door(3) -2", "door(-1) -2");
        DUE.are(Due.of("p07;hh00;"), "door(2) 7", "days(6) 6", "door(2) 1", "days(1) 7", "door(2) 0");
        // It rests where it does not spin, too: at the side.
        DUE.are(Due.of("p00;hq00;s09;"), "door(2) 6", "door(1) -9");
        DUE.are(Due.of(NEVER_RESTS), "door(2) -9", "way(60) 60");
        NeedleToTheMissed x = Due.of(RESTS_AT_60);
        DUE.are(x, "door(2) 60", "way(60) 60");
        DUE.is("the 61st day", behind(x, 60).way(1), 0);
        x = Due.of(RESTS_AT_61);
        DUE.are(x, "door(2) -9", "way(60) 60");
        x.days(1);
        DUE.are(x, "door(2) 60", "way(60) 60");
    }

    private static NeedleToTheMissed behind(NeedleToTheMissed x, int days) {
        x.days(days);
        return x;
    }

    private static void way() {
        DUE.terms("WAY: how many of the next n DAYS (1 .. 60) THE SHIP goes.");
        DUE.promise(30, "WAY. -4 below 1; -6 60.");
        NeedleToTheMissed x = Due.of("p03;hh00;");
        DUE.are(x, "way(0) -4", "way(-1) -4", "way(61) -6", "way(1) 1", "way(2) 2", "way(3) 3", "way(4) 3", "way(60) 3",
            "days(3) 3", "way(1) 0", "way(60) 0");
        DUE.are(new NeedleToTheMissed(), "way(1) 0", "way(60) 0");
        DUE.are(Due.of(NEVER_RESTS), "way(1) 1", "way(59) 59", "way(60) 60");
    }
}
