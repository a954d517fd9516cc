/** Promises 4 to 11: hand, place, leans, drops, boards, sails, misses, turn. */
public final class HandsTest {
    private static final Due DUE = new Due();

    public static void main(String[] args) {
        handAndPlace();
        leansOfKinds();
        leansOfADrunk();
        drops();
        boards();
        sails();
        misses();
        turn();
        DUE.end();
    }

    private static void handAndPlace() {
        NeedleToTheMissed x = Due.of("p40;p17;hw81;d03;");
        int[] wants = {3, 8, 1, 3, 1};
        for (int what = 0; what < wants.length; what++) {
            DUE.is("hand(0, " + what + ")", x.hand(0, what), wants[what]);
        }
        DUE.is("hand(0, 5)", x.hand(0, 5), -2);
        DUE.is("hand(0, -1)", x.hand(0, -1), -2);
        DUE.is("hand(1, 5)", x.hand(1, 5), -1);
        DUE.is("hand(-1, 0)", x.hand(-1, 0), -1);
        DUE.is("place(0)", x.place(0), 40);
        DUE.is("place(1)", x.place(1), 17);
        DUE.is("place(2)", x.place(2), -1);
        DUE.is("place(-1)", x.place(-1), -1);
        DUE.is("count(11)", x.count(11), 4);
        DUE.is("count(12)", x.count(12), 2);
    }

    private static void leansOfKinds() {
        // Two places at one cell, the ship there too: it spins, so days only add SEA.
        NeedleToTheMissed x = Due.of("p00;hh90;hb90;hm90;hw80;hq80;hw20;");
        int[] atFirst = {1, 2, 0, 3, -3, 1};
        int[] afterNine = {2, 4, 0, 4, -4, 2};
        int[] afterTen = {3, 6, 0, 5, -5, 3};
        leansAre(x, atFirst);
        x.days(9);
        leansAre(x, afterNine);
        x.days(1);
        leansAre(x, afterTen);
        x.days(60);
        x.days(60);
        DUE.is("SEA at most 99", x.hand(0, 3), 99);
        DUE.is("leans at 99", x.leans(0), 20);
        x.boards(0);
        DUE.is("leans ashore", x.leans(0), 20);
        DUE.is("leans(6)", x.leans(6), 1000000001);
        DUE.is("leans(-1)", x.leans(-1), 1000000001);
        DUE.is("count(11)", x.count(11), 2);
    }

    private static void leansAre(NeedleToTheMissed x, int[] wants) {
        for (int hand = 0; hand < wants.length; hand++) {
            DUE.is("leans(" + hand + ")", x.leans(hand), wants[hand]);
        }
    }

    private static void leansOfADrunk() {
        NeedleToTheMissed x = Due.of("p00;hd90;s18;");
        DUE.is("4 steps off", x.leans(0), 1);
        x.sails(17);
        DUE.is("3 steps off", x.leans(0), 4);
        x.sails(0);
        DUE.is("there", x.leans(0), 4);
        x.days(7);
        DUE.is("there, SEA 7", x.leans(0), 8);
        x.sails(63);
        DUE.is("14 steps off, SEA 7", x.leans(0), 2);
    }

    private static void drops() {
        NeedleToTheMissed x = Due.of("p00;hh00;hb00;d07;");
        DUE.is("drops(1)", x.drops(1), 3);
        DUE.is("drops(1)", x.drops(1), 1);
        DUE.is("drops(1)", x.drops(1), 0);
        DUE.is("drops(1)", x.drops(1), 0);
        DUE.is("the other's", x.hand(0, 3), 7);
        DUE.is("drops(2)", x.drops(2), -1);
        DUE.is("drops(-1)", x.drops(-1), -1);
    }

    private static void boards() {
        NeedleToTheMissed x = Due.of("p00;hh00;hb00;");
        DUE.is("boards(1)", x.boards(1), 0);
        DUE.is("aboard", x.count(4), 1);
        x.days(5);
        DUE.is("ashore at 0", x.hand(1, 3), 0);
        DUE.is("boards(1)", x.boards(1), 1);
        DUE.is("aboard", x.count(4), 3);
        DUE.is("boards(0)", x.boards(0), 0);
        x.days(2);
        DUE.is("ashore, less", x.hand(0, 3), 3);
        DUE.is("boards(2)", x.boards(2), -1);
        DUE.is("boards(-1)", x.boards(-1), -1);
    }

    private static void sails() {
        NeedleToTheMissed x = new NeedleToTheMissed();
        DUE.is("sails(63)", x.sails(63), 0);
        DUE.is("sails(64)", x.sails(64), -1);
        DUE.is("sails(-1)", x.sails(-1), -1);
        DUE.is("sails(5)", x.sails(5), 63);
        DUE.is("ship", x.count(3), 5);
    }

    private static void misses() {
        NeedleToTheMissed x = Due.of("p00;p01;hh01;");
        DUE.is("misses(0, 0)", x.misses(0, 0), 1);
        DUE.is("hand(0, 2)", x.hand(0, 2), 0);
        DUE.is("misses(0, 1)", x.misses(0, 1), 0);
        DUE.is("misses(1, 0)", x.misses(1, 0), -1);
        DUE.is("misses(-1, 0)", x.misses(-1, 0), -1);
        DUE.is("misses(0, 2)", x.misses(0, 2), -1);
        DUE.is("misses(0, -1)", x.misses(0, -1), -1);
        DUE.is("hand(0, 2)", x.hand(0, 2), 1);
    }

    private static void turn() {
        NeedleToTheMissed x = Due.of("p00;hw70;");
        DUE.is("turn(0, 5, 9)", x.turn(0, 5, 9), 37);
        DUE.is("turn(0, 0, 0)", x.turn(0, 0, 0), 59);
        DUE.is("turn(1, 6, 10)", x.turn(1, 6, 10), -1);
        DUE.is("turn(0, 6, 10)", x.turn(0, 6, 10), -2);
        DUE.is("turn(0, -1, -1)", x.turn(0, -1, -1), -2);
        DUE.is("turn(0, 5, -1)", x.turn(0, 5, -1), -4);
        DUE.is("turn(0, 5, 10)", x.turn(0, 5, 10), -6);
        DUE.is("kind", x.hand(0, 0), 0);
        DUE.is("figure", x.hand(0, 1), 0);
    }
}
