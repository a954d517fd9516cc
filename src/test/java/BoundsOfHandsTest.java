/** The boundary cases of promises 4 to 11 and of what the Terms say of HANDS, KINDS and LETTERS. */
public final class BoundsOfHandsTest {
    private static final Due DUE = new Due();

    public static void main(String[] args) {
        cellsAndPlaces();
        numbersOfHands();
        seaAtItsEnds();
        seaByFive();
        figureByThree();
        kindsWithoutFigure();
        stepsOfADrunk();
        halves();
        asked();
        dropped();
        boarded();
        sailed();
        missed();
        turned();
        DUE.end();
    }

    private static void cellsAndPlaces() {
        DUE.terms("CELLS 0 .. 63: row CELL by 8, column CELL modulo 8.");
        // From 27 (row 3, column 3) as far as to the corners and to the ends of its row and column.
        int[] cells = {0, 7, 56, 63, 24, 31, 3, 59, 27};
        int[] steps = {6, 7, 7, 8, 3, 4, 3, 4, 0};
        for (int i = 0; i < cells.length; i++) {
            DUE.is("home() of " + cells[i], Due.of(String.format("p%02d;hh00;s27;", cells[i])).home(0), steps[i]);
        }
        DUE.is("7 and 8 are not next to one another", Due.of("p07;hh00;s08;").home(0), 8);
        DUE.terms("PLACES 0 .. as they come (6 at most): a CELL.");
        DUE.are(Due.of(Seas.FULL_TEXT), "count(0) 6", "place(0) 0", "place(1) 7", "place(2) 56", "place(3) 63",
            "place(4) 27", "place(5) 36", "place(6) -1");
        DUE.terms("THE SHIP is AT a CELL (0 at first).");
        DUE.are(new NeedleToTheMissed(), "count(3) 0", "shipThen(0) 0");
        DUE.terms("DAY (0 .. 999; 0 at first).");
        DUE.are(new NeedleToTheMissed(), "count(2) 0", "image() 0");
    }

    private static void numbersOfHands() {
        DUE.terms("HANDS 0 .. as they come (7 at most): KIND, FIGURE (0 .. 9), MISSES one of the PLACES,"
            + " SEA (DAYS, 0 .. 99; 0 at first), ABOARD (at first) or ashore.");
        NeedleToTheMissed x = Due.of(Seas.FULL_TEXT);
        int[] kinds = {0, 1, 2, 3, 4, 5, 0};
        int[] figures = {0, 0, 0, 9, 9, 0, 9};
        int[] misses = {0, 1, 2, 3, 4, 5, 5};
        for (int hand = 0; hand < 7; hand++) {
            DUE.are(x, "hand(" + hand + ", 0) " + kinds[hand], "hand(" + hand + ", 1) " + figures[hand],
                "hand(" + hand + ", 2) " + misses[hand], "hand(" + hand + ", 3) 0", "hand(" + hand + ", 4) 1");
        }
        DUE.are(x, "count(1) 7", "count(4) 127", "count(5) 0");
        // Who comes later, begins with 0 and aboard, though others have been at sea and are ashore.
        x = Due.of("p09;hh00;d60;a0;");
        Due.tell(x, "hh00;");
        DUE.are(x, "hand(1, 3) 0", "hand(1, 4) 1", "hand(0, 4) 0", "count(4) 2", "count(5) 60");
    }

    private static void seaAtItsEnds() {
        DUE.terms("SEA of all ABOARD is 1 more (99 at most), of others 1 less (0 at least).");
        NeedleToTheMissed x = Due.of("p00;hh00;hb00;d60;d38;");
        DUE.are(x, "hand(0, 3) 98", "days(1) 0", "hand(0, 3) 99", "days(1) 0", "hand(0, 3) 99", "days(60) 0",
            "hand(0, 3) 99", "count(5) 198", "boards(0) 0", "days(1) 0", "hand(0, 3) 98", "hand(1, 3) 99",
            "days(37) 0", "days(60) 0", "hand(0, 3) 1", "days(1) 0", "hand(0, 3) 0", "days(1) 0", "hand(0, 3) 0",
            "days(60) 0", "hand(0, 3) 0", "boards(0) 1", "days(1) 0", "hand(0, 3) 1", "count(5) 100");
    }

    private static void seaByFive() {
        DUE.terms("KINDS of HANDS, LEANS (how much he pulls, SHIP and PLACE being so many STEPS (rows and columns) apart):"
            + " h HAND: SEA by 5, cut, and 1.");
        NeedleToTheMissed x = Due.of("p00;hh90;");
        DUE.is("leans at 0", x.leans(0), 1);
        for (int sea = 1; sea <= 99; sea++) {
            x.days(1);
            DUE.is("leans at " + sea, x.leans(0), sea / 5 + 1);
        }
        DUE.are(x, "days(1) 0", "leans(0) 20");
    }

    private static void figureByThree() {
        NeedleToTheMissed x = Due.of("p00;hh90;");
        int[] more = {0, 0, 0, 1, 1, 1, 2, 2, 2, 3};
        for (int figure = 0; figure < more.length; figure++) {
            DUE.terms("w WHALER under HAND: FIGURE by 3, cut, more.");
            x.turn(0, 3, figure);
            DUE.is("leans of a whaler with " + figure, x.leans(0), 1 + more[figure]);
            DUE.terms("q QUARRELLER under WHALER: that, below 0 (he pulls away).");
            x.turn(0, 4, figure);
            DUE.is("leans of a quarreller with " + figure, x.leans(0), -1 - more[figure]);
        }
        x.days(60);
        x.days(60);
        DUE.are(x, "leans(0) -23", "turn(0, 3, 9) 49", "leans(0) 23", "turn(0, 3, 0) 39", "leans(0) 20",
            "turn(0, 4, 2) 30", "leans(0) -20");
    }

    private static void kindsWithoutFigure() {
        NeedleToTheMissed x = Due.of("p00;hh90;");
        DUE.terms("b BOY under HAND: twice.");
        DUE.are(x, "turn(0, 1, 9) 9", "leans(0) 2", "turn(0, 1, 0) 19", "leans(0) 2", "days(4) 0", "leans(0) 2",
            "days(1) 0", "leans(0) 4");
        DUE.terms("m MASTER under HAND: 0.");
        DUE.are(x, "turn(0, 2, 9) 10", "leans(0) 0", "turn(0, 2, 0) 29", "leans(0) 0");
        DUE.terms("Where it is not told as above them.");
        DUE.are(x, "turn(0, 0, 9) 20", "leans(0) 2", "turn(0, 5, 9) 9", "leans(0) 8", "sails(63) 0", "leans(0) 2",
            "turn(0, 1, 9) 59", "leans(0) 4", "turn(0, 0, 0) 19", "leans(0) 2", "days(60) 0", "days(60) 0");
        DUE.are(x, "hand(0, 3) 99", "turn(0, 1, 0) 0", "leans(0) 40", "turn(0, 2, 0) 10", "leans(0) 0",
            "turn(0, 5, 0) 20", "leans(0) 80", "sails(63) 0", "leans(0) 20");
    }

    private static void stepsOfADrunk() {
        DUE.terms("d DRUNK under BOY: half of a BOY's, if it is 4 STEPS off or more, else twice a BOY's.");
        // The place is at row 3, column 3.
        NeedleToTheMissed x = Due.of("p27;hd00;");
        int[] near = {27, 26, 19, 25, 11, 24, 3, 30, 51, 10, 17, 37, 44};
        int[] far = {31, 59, 9, 16, 2, 23, 32, 45, 63, 0, 7, 56};
        for (int cell : near) {
            x.sails(cell);
            DUE.is("leans at " + cell, x.leans(0), 4);
        }
        for (int cell : far) {
            x.sails(cell);
            DUE.is("leans at " + cell, x.leans(0), 1);
        }
    }

    private static void halves() {
        DUE.terms("A LETTER: SEA of that HAND becomes half, cut.");
        NeedleToTheMissed x = Due.of("p00;hh00;hh00;d60;d39;");
        DUE.are(x, "drops(0) 49", "drops(0) 24", "drops(0) 12", "drops(0) 6", "drops(0) 3", "drops(0) 1", "drops(0) 0",
            "drops(0) 0", "hand(1, 3) 99", "count(5) 99");
        DUE.is("two letters in a text", Due.tell(x, "l1;l1;"), 2);
        DUE.are(x, "hand(1, 3) 24", "hand(0, 3) 0");
    }

    private static void asked() {
        DUE.promise(4, "Of a HAND: 0 KIND (0 h, 1 b, 2 m, 3 w, 4 q, 5 d), 1 FIGURE, 2 the PLACE he MISSES, 3 SEA,"
            + " 4 1 ABOARD, 0 ashore. -1; -2.");
        NeedleToTheMissed x = Due.of(Seas.FULL_TEXT + "d07;");
        DUE.are(x, "hand(0, 0) 0", "hand(1, 0) 1", "hand(2, 0) 2", "hand(3, 0) 3", "hand(4, 0) 4", "hand(5, 0) 5",
            "hand(6, 0) 0", "hand(6, 1) 9", "hand(6, 2) 5", "hand(6, 3) 7", "hand(6, 4) 1", "boards(6) 0",
            "hand(6, 4) 0", "hand(7, 0) -1", "hand(-1, 4) -1", "hand(6, 5) -2", "hand(0, -1) -2", "hand(7, 5) -1");
        DUE.promise(5, "Its CELL. -1.");
        DUE.are(x, "place(0) 0", "place(5) 36", "place(6) -1", "place(-1) -1");
        DUE.are(new NeedleToTheMissed(), "place(0) -1", "hand(0, 0) -1");
        DUE.promise(6, "LEANS now. Refused as told: -1.");
        DUE.are(x, "leans(0) 2", "leans(6) 2", "leans(7) 1000000001", "leans(-1) 1000000001");
        DUE.are(new NeedleToTheMissed(), "leans(0) 1000000001");
    }

    private static void dropped() {
        DUE.promise(7, "A LETTER of his: SEA then. -1.");
        NeedleToTheMissed x = Due.of(Seas.FULL_TEXT + "d07;");
        DUE.are(x, "drops(6) 3", "drops(0) 3", "drops(7) -1", "drops(-1) -1", "count(5) 41", "boards(6) 0",
            "drops(6) 1", "drops(6) 0", "drops(6) 0", "count(11) 2");
    }

    private static void boarded() {
        DUE.promise(8, "ABOARD, or ashore: 1, 0. -1.");
        NeedleToTheMissed x = Due.of(Seas.FULL_TEXT);
        DUE.are(x, "boards(6) 0", "count(4) 63", "boards(6) 1", "count(4) 127", "boards(0) 0", "count(4) 126",
            "boards(7) -1", "boards(-1) -1", "count(4) 126");
        for (int hand = 1; hand <= 6; hand++) {
            DUE.is("boards(" + hand + ")", x.boards(hand), 0);
        }
        DUE.are(x, "count(4) 0", "needle() -9", "boards(6) 1", "count(4) 64");
    }

    private static void sailed() {
        DUE.promise(9, "THE SHIP is AT it: where it was. -1.");
        DUE.are(new NeedleToTheMissed(), "sails(0) 0", "sails(63) 0", "sails(63) 63", "sails(64) -1", "sails(-1) -1",
            "count(3) 63", "sails(0) 63", "count(3) 0", "count(2) 0");
    }

    private static void missed() {
        DUE.promise(10, "He MISSES that PLACE: which it was. -1 either.");
        NeedleToTheMissed x = Due.of(Seas.FULL_TEXT);
        DUE.are(x, "misses(0, 5) 0", "misses(0, 5) 5", "misses(6, 0) 5", "hand(6, 2) 0", "misses(6, 6) -1",
            "misses(6, -1) -1", "misses(7, 0) -1", "misses(-1, 0) -1", "misses(7, 6) -1", "count(11) 5",
            "hand(6, 2) 0", "hand(0, 2) 5", "home(0) 8");
    }

    private static void turned() {
        DUE.promise(11, "KIND, FIGURE become others: 10 times the KIND and the FIGURE it had. -1; -2; -4; -6 9.");
        NeedleToTheMissed x = Due.of(Seas.FULL_TEXT);
        DUE.are(x, "turn(6, 5, 9) 9", "turn(6, 0, 0) 59", "turn(6, 5, 0) 0", "turn(6, 0, 9) 50", "turn(4, 4, 9) 49",
            "turn(7, 0, 0) -1", "turn(6, 6, 0) -2", "turn(6, -1, 0) -2", "turn(6, 5, -1) -4", "turn(6, 5, 10) -6",
            "hand(6, 0) 0", "hand(6, 1) 9", "hand(6, 2) 5", "hand(6, 3) 0", "count(11) 1", "count(12) 2", "count(14) 1",
            "count(16) 1");
    }
}
