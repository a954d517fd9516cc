/** The boundary cases of promises 39 to 41: image, on, count. */
public final class BoundsOfImageTest {
    private static final Due DUE = new Due();

    public static void main(String[] args) {
        noImage();
        imageOfNothing();
        imageOfAFullSea();
        allButRowLettersRefusals();
        takenAgain();
        comesAfterwards();
        counts();
        countsOfOthers();
        DUE.end();
    }

    private static void noImage() {
        DUE.promise(40, "ON from it: DAY. -3 there is none.");
        NeedleToTheMissed x = Due.of("p09;hh00;d09;");
        DUE.are(x, "on() -3", "on() -3", "count(13) 2", "count(2) 9", "count(3) 9", "image() 9", "on() 9", "count(13) 2");
    }

    private static void imageOfNothing() {
        DUE.terms("THE IMAGE: all that there is, but it, the ROW, letters, REFUSALS;");
        DUE.promise(39, "THE IMAGE is taken: DAY.");
        NeedleToTheMissed x = new NeedleToTheMissed();
        DUE.are(x, "image() 0");
        DUE.is("a full sea", Due.tell(x, Seas.FULL_TEXT + "a6;d09;"), 15);
        DUE.are(x, "on() 0", "count(0) 0", "count(1) 0", "count(2) 0", "count(3) 0", "count(4) 0", "count(5) 0",
            "place(0) -1", "hand(0, 0) -1", "needle() -9", "nearest() -9", "strongest() -9", "missed(0) -9");
        DUE.is("a full sea again", Due.tell(x, Seas.FULL_TEXT), 13);
        DUE.are(x, "count(4) 127", "count(5) 0", "hand(6, 3) 0");
    }

    private static void imageOfAFullSea() {
        DUE.terms("ON from it all is as then.");
        NeedleToTheMissed x = Due.of(Seas.FULL_TEXT + "a6;d09;");
        NeedleToTheMissed twin = Due.of(Seas.FULL_TEXT + "a6;d09;");
        DUE.are(x, "image() 9");
        for (int hand = 0; hand < 7; hand++) {
            x.turn(hand, 5 - hand % 6, 9 - hand);
            x.misses(hand, hand % 6);
            x.drops(hand);
            x.boards(hand);
        }
        x.days(60);
        x.sails(1);
        DUE.are(x, "on() 9");
        x.image();
        twin.image();
        DUE.holds("all is as then", Seas.seen(x).equals(Seas.seen(twin)));
        x = Due.of("d60;d60;d60;d60;d60;d60;d60;d60;d60;d60;d60;d60;d60;d60;d60;d60;d39;");
        DUE.are(x, "image() 999", "on() 999", "days(1) -6");
    }

    private static void allButRowLettersRefusals() {
        DUE.terms("THE IMAGE: all that there is, but it, the ROW, letters, REFUSALS;");
        NeedleToTheMissed x = Due.of("p02;hh00;");
        DUE.are(x, "row(1) 1", "letter(115) 1", "place(1) -1", "image() 0", "row(1) 2", "letter(48) 2", "place(1) -1",
            "way(0) -4", "on() 0", "count(6) 2", "count(7) 2", "count(11) 2", "count(14) 1", "letter(57) 3",
            "letter(59) 4", "sea() 1", "count(3) 9", "on() 0", "count(3) 0", "count(7) 0", "row(1) 3", "judge() 2",
            "on() 0", "count(6) 0");
        for (int i = 0; i < 16; i++) {
            x.row(9);
        }
        DUE.are(x, "image() 0", "clear() 16", "on() 0", "count(6) 0");
    }

    private static void takenAgain() {
        DUE.promise(39, "THE IMAGE is taken: DAY.");
        NeedleToTheMissed x = Due.of("p07;hh00;");
        DUE.are(x, "image() 0", "days(1) 1", "image() 1", "days(1) 2", "on() 1", "count(3) 1", "days(2) 3", "on() 1",
            "on() 1", "count(3) 1", "count(5) 1", "image() 1", "days(60) 7", "on() 1");
    }

    private static void comesAfterwards() {
        DUE.promise(40, "ON from it: DAY.");
        NeedleToTheMissed x = Due.of("p07;hh00;");
        x.image();
        Due.tell(x, "p63;hq91;d20;a1;");
        DUE.are(x, "count(0) 2", "count(1) 2", "on() 0", "count(0) 1", "count(1) 1", "misses(0, 1) -1", "home(1) -1",
            "place(1) -1");
        DUE.is("another second", Due.tell(x, "p56;hb00;"), 2);
        DUE.are(x, "place(1) 56", "hand(1, 0) 1", "hand(1, 1) 0", "hand(1, 2) 0", "hand(1, 3) 0", "hand(1, 4) 1",
            "count(4) 3");
    }

    private static void counts() {
        DUE.promise(41, "0 PLACES, 1 HANDS, 2 DAY, 3 where THE SHIP is, 4 who is ABOARD (bits), 5 all SEA, 6 in the ROW,"
            + " 7 letters, 11 .. 16 REFUSALS -1 .. -6. -9 for another what.");
        DUE.are(Seas.full(), "count(0) 6", "count(1) 7", "count(2) 999", "count(4) 63", "count(5) 594", "count(6) 16",
            "count(7) 96");
        NeedleToTheMissed x = Due.of("p63;hh00;hh00;hh00;hh00;hh00;hh00;hh00;d60;d60;");
        DUE.are(x, "count(3) 63", "count(4) 127", "count(5) 693");
        DUE.are(new NeedleToTheMissed(), "count(0) 0", "count(1) 0", "count(2) 0", "count(3) 0", "count(4) 0",
            "count(5) 0", "count(6) 0", "count(7) 0");
        // SEA of those ashore is of all SEA.
        DUE.are(Due.of("p00;hh00;hh00;d09;a0;"), "count(5) 18", "count(4) 2", "days(1) 0", "count(5) 18");
        x = new NeedleToTheMissed();
        DUE.are(x, "place(0) -1", "door(3) -2", "door(3) -2", "on() -3", "on() -3", "on() -3", "way(0) -4", "way(0) -4",
            "way(0) -4", "way(0) -4", "way(61) -6", "way(61) -6", "way(61) -6", "way(61) -6", "way(61) -6",
            "count(11) 1", "count(12) 2", "count(13) 3", "count(14) 4", "count(15) 0", "count(16) 5");
    }

    private static void countsOfOthers() {
        NeedleToTheMissed x = Seas.full();
        DUE.are(x, "count(-1) -9", "count(8) -9", "count(9) -9", "count(10) -9", "count(17) -9", "count(least) -9",
            "count(greatest) -9", "count(-9) -9", "count(2147483637) -9", "count(-2147483638) -9", "count(11) 0",
            "count(12) 0");
    }
}
