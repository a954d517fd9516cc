/** The boundary cases of promises 22 to 26, 28 and 29: turners, pull, strongest, missed, opposed, home, nearest. */
public final class BoundsOfPullTest {
    private static final Due DUE = new Due();

    public static void main(String[] args) {
        turners();
        pull();
        strongest();
        missed();
        opposed();
        home();
        nearest();
        DUE.end();
    }

    private static void turners() {
        DUE.terms("TURNS: HANDS (bits) ABOARD without whom THE NEEDLE points elsewhere now.");
        DUE.promise(22, "TURNS (bits).");
        DUE.are(new NeedleToTheMissed(), "turners() 0");
        DUE.are(Due.of("p09;hm00;hm00;"), "turners() 0");
        DUE.are(Due.of("p09;hh00;"), "turners() 1", "boards(0) 0", "turners() 0", "boards(0) 1", "sails(9) 0",
            "turners() 0");
        // Seven whose pulls are 0 together: without any it does not spin.
        NeedleToTheMissed x = Due.of("p47;hh30;hh30;hq70;hb90;hd20;hd90;hq70;");
        DUE.are(x, "needle() -9", "turners() 127");
        // 3 together without the seventh, then 2, then 1: who leans as much or more turns it; the ashore do not.
        DUE.are(x, "boards(6) 0", "needle() 1", "turners() 0", "boards(0) 0", "turners() 8", "boards(1) 0",
            "turners() 56");
        x = Due.of("p07;hm00;hm00;hm00;hm00;hm00;hm00;hh00;");
        DUE.are(x, "turners() 64");
        // Elsewhere is also another way, not only no way: rows 2 and columns 2, without 1 rows 2 and columns 1.
        x = Due.of("p07;p56;hh00;hh00;hb01;");
        DUE.are(x, "needle() 1", "turners() 3", "boards(1) 0", "needle() 2", "turners() 4");
    }

    private static void pull() {
        DUE.terms("PULL: ROWS, COLUMNS (may be below 0).");
        DUE.promise(23, "ROWS (what 0), COLUMNS (1). Refused as told: -2.");
        DUE.are(new NeedleToTheMissed(), "pull(0) 0", "pull(1) 0", "pull(2) 1000000002", "pull(-1) 1000000002");
        DUE.are(Due.of("p63;hb00;"), "pull(0) 2", "pull(1) 2", "sails(63) 0", "pull(0) 0", "pull(1) 0");
        DUE.are(Due.of("p00;hb00;s63;"), "pull(0) -2", "pull(1) -2", "boards(0) 0", "pull(0) 0", "pull(1) 0");
        // The same row, the same column: not lesser nor greater.
        DUE.are(Due.of("p31;hh00;s24;"), "pull(0) 0", "pull(1) 1", "sails(7) 24", "pull(0) 1", "pull(1) 0");
        DUE.are(Due.of("p07;hh00;s08;"), "pull(0) -1", "pull(1) 1");
        // One refused is below these by far.
        DUE.are(Due.of("p00;hq90;hq90;hq90;hq90;hq90;hq90;hq90;d60;d39;s63;"), "pull(0) 161", "pull(1) 161");
    }

    private static void strongest() {
        DUE.terms("STRONGEST: the one ABOARD who LEANS farthest from 0 now, of several the least; -9.");
        DUE.promise(24, "STRONGEST; -9.");
        DUE.are(new NeedleToTheMissed(), "strongest() -9");
        DUE.are(Due.of("p00;"), "strongest() -9");
        NeedleToTheMissed x = Due.of("p00;hm00;hm00;hm00;hm00;hm00;hm00;hm00;");
        DUE.are(x, "strongest() 0", "boards(0) 0", "strongest() 1", "turn(6, 0, 0) 20", "strongest() 6",
            "turn(5, 4, 2) 20", "strongest() 5", "turn(6, 1, 0) 0", "strongest() 6", "turn(5, 4, 3) 42",
            "strongest() 5", "turn(4, 3, 3) 20", "strongest() 4", "turn(5, 4, 6) 43", "strongest() 5", "boards(5) 0",
            "strongest() 4");
        for (int hand = 1; hand <= 4; hand++) {
            x.boards(hand);
        }
        DUE.are(x, "strongest() 6", "boards(6) 0", "strongest() -9", "boards(6) 1", "strongest() 6");
    }

    private static void missed() {
        DUE.terms("MISSED: the PLACE to which most LEANS ABOARD go together, of several the least; -9 no PLACES; that"
            + " (may be below 0).");
        DUE.promise(25, "MISSED: which (what 0; -9), that (1; 0 no PLACES). Refused as told: -2.");
        DUE.are(new NeedleToTheMissed(), "missed(0) -9", "missed(1) 0", "missed(2) 1000000002", "missed(-1) 1000000002");
        DUE.are(Due.of("p00;p01;"), "missed(0) 0", "missed(1) 0");
        NeedleToTheMissed x = Due.of("p00;p01;p02;p03;p04;p05;hh05;hh05;hb04;");
        DUE.are(x, "missed(0) 4", "missed(1) 2", "turn(0, 3, 3) 0", "missed(0) 5", "missed(1) 3", "boards(0) 0",
            "missed(0) 4", "boards(2) 0", "missed(0) 5", "missed(1) 1", "boards(1) 0", "missed(0) 0", "missed(1) 0");
        // One who pulls away makes it less; a place that nobody misses has 0.
        x = Due.of("p00;p01;hq00;hq01;hh01;");
        DUE.are(x, "missed(0) 1", "missed(1) 0", "boards(2) 0", "missed(0) 0", "missed(1) -1", "turn(0, 4, 3) 40",
            "missed(0) 1", "missed(1) -1");
        x = Due.of("p00;hq90;hq90;hq90;hq90;hq90;hq90;hq90;d60;d39;");
        DUE.are(x, "missed(0) 0", "missed(1) -161");
        // Who leans is by where the ship is now.
        x = Due.of("p00;p63;hd00;hd01;");
        DUE.are(x, "missed(0) 0", "missed(1) 4", "sails(63) 0", "missed(0) 1", "missed(1) 4", "sails(7) 63",
            "missed(0) 0", "missed(1) 1");
    }

    private static void opposed() {
        DUE.terms("OPPOSED: how many twos ABOARD MISS PLACES in other ways (one row lesser and one greater than THE"
            + " SHIP's, or columns so).");
        DUE.promise(26, "OPPOSED.");
        DUE.are(new NeedleToTheMissed(), "opposed() 0");
        DUE.are(Due.of("p00;hh00;"), "opposed() 0");
        // All but three of the twos of seven about 27; none at its row and column.
        NeedleToTheMissed x = Due.of("p18;p20;p34;p36;hm00;hm00;hm01;hm01;hm02;hm02;hm03;s27;");
        DUE.are(x, "opposed() 18", "boards(6) 0", "opposed() 12", "sails(3) 27", "opposed() 8", "sails(0) 3",
            "opposed() 0", "sails(63) 0", "opposed() 0");
        // The ship's own row or column is neither lesser nor greater.
        x = Due.of("p27;p03;p31;hm00;hm01;hm02;s27;");
        DUE.are(x, "opposed() 0");
        x = Due.of("p19;p35;p26;p28;hm00;hm01;hm02;hm03;s27;");
        DUE.are(x, "opposed() 2", "sails(28) 27", "opposed() 1", "sails(35) 28", "opposed() 1");
        // Rows and columns both: one two; the same hand's place twice: no two.
        DUE.are(Due.of("p00;p63;hm00;hm01;s27;"), "opposed() 1");
        DUE.are(Due.of("p00;hm00;hm00;s27;"), "opposed() 0");
    }

    private static void home() {
        DUE.terms("HOME of a HAND: how many STEPS THE SHIP is from his PLACE;");
        DUE.promise(28, "HOME. -1.");
        NeedleToTheMissed x = Due.of(Seas.FULL_TEXT);
        DUE.are(x, "home(0) 0", "home(1) 7", "home(2) 7", "home(3) 14", "home(4) 6", "home(5) 8", "home(6) 8",
            "home(7) -1", "home(-1) -1", "sails(63) 0", "home(0) 14", "home(3) 0", "boards(6) 0", "home(6) 6");
        DUE.are(new NeedleToTheMissed(), "home(0) -1");
    }

    private static void nearest() {
        DUE.terms("NEAREST: the PLACE nearest THE SHIP (STEPS), of several the least; -9.");
        DUE.promise(29, "NEAREST; -9.");
        DUE.are(new NeedleToTheMissed(), "nearest() -9");
        DUE.are(Due.of("p63;"), "nearest() 0");
        DUE.are(Due.of("p63;p62;p55;"), "nearest() 1");
        DUE.are(Due.of("p63;p56;p07;p00;p01;p00;s00;"), "nearest() 3", "sails(1) 0", "nearest() 4", "sails(2) 1",
            "nearest() 4", "sails(63) 2", "nearest() 0");
        DUE.are(Due.of("p63;p63;p63;p63;p63;p62;"), "nearest() 5");
        // Steps, not the numbers of cells: 7 and 8 are 8 off.
        DUE.are(Due.of("p08;p15;s07;"), "nearest() 1");
    }
}
