/** Promises 12 to 18: days, needle, shipThen, needleThen, seaThen, comes, door; and way, 30. */
public final class DaysTest {
    private static final Due DUE = new Due();

    public static void main(String[] args) {
        fourWays();
        straightCourse();
        toAllSides();
        dayAtMost999();
        awayToTheEdge();
        ashoreDoesNotPull();
        firstOfPlaces();
        theLastDaysLookedAt();
        wrongNumbers();
        DUE.end();
    }

    private static void fourWays() {
        DUE.is("rows and columns alike: columns", Due.of("p63;hh00;").needle(), 1);
        DUE.is("greater rows", Due.of("p56;hh00;").needle(), 2);
        DUE.is("lesser rows", Due.of("p07;hh00;s63;").needle(), 0);
        DUE.is("lesser columns", Due.of("p56;hh00;s63;").needle(), 3);
        DUE.is("alike, lesser columns", Due.of("p00;hh00;s63;").needle(), 3);
        DUE.is("rows farther from 0, below it", Due.of("p03;p24;hb00;hh01;s27;").needle(), 0);
        DUE.is("spins at the place", Due.of("p00;hh00;").needle(), -9);
        DUE.is("spins between two", Due.of("p24;p30;hh00;hh01;s27;").needle(), -9);
        DUE.is("spins of nobody", new NeedleToTheMissed().needle(), -9);
        int[] froms = {27, 27, 27, 27};
        int[] places = {3, 31, 59, 24};
        int[] ends = {19, 28, 35, 26};
        for (int i = 0; i < froms.length; i++) {
            NeedleToTheMissed x = Due.of(String.format("p%02d;hh00;s%02d;", places[i], froms[i]));
            DUE.is("a day towards " + places[i], x.days(1), ends[i]);
        }
    }

    private static void straightCourse() {
        NeedleToTheMissed x = Due.of("p07;hh00;");
        DUE.is("days(3)", x.days(3), 3);
        DUE.is("day", x.count(2), 3);
        DUE.is("SEA", x.hand(0, 3), 3);
        DUE.is("shipThen(0)", x.shipThen(0), 3);
        DUE.is("shipThen(3)", x.shipThen(3), 6);
        DUE.is("shipThen(4)", x.shipThen(4), 7);
        DUE.is("shipThen(60)", x.shipThen(60), 7);
        DUE.is("needleThen(0)", x.needleThen(0), 1);
        DUE.is("needleThen(3)", x.needleThen(3), 1);
        DUE.is("needleThen(4)", x.needleThen(4), -9);
        DUE.is("needleThen(60)", x.needleThen(60), -9);
        DUE.is("seaThen(0, 0)", x.seaThen(0, 0), 3);
        DUE.is("seaThen(0, 60)", x.seaThen(0, 60), 63);
        DUE.is("comes(0)", x.comes(0), 4);
        DUE.is("door(0)", x.door(0), 0);
        DUE.is("door(1)", x.door(1), 4);
        DUE.is("door(2)", x.door(2), 4);
        DUE.is("way(1)", x.way(1), 1);
        DUE.is("way(3)", x.way(3), 3);
        DUE.is("way(60)", x.way(60), 4);
        DUE.is("the ship is where it was", x.count(3), 3);
        DUE.is("the day is what it was", x.count(2), 3);
        DUE.is("SEA is what it was", x.count(5), 3);
    }

    private static void toAllSides() {
        String[] texts = {"p03;hh00;s59;", "p31;hh00;s24;", "p59;hh00;s03;", "p24;hh00;s31;"};
        int[] ends = {3, 31, 59, 24};
        for (int i = 0; i < texts.length; i++) {
            NeedleToTheMissed x = Due.of(texts[i]);
            DUE.is("comes by " + texts[i], x.comes(0), 7);
            DUE.is("days(7) by " + texts[i], x.days(7), ends[i]);
        }
    }

    private static void dayAtMost999() {
        NeedleToTheMissed x = Due.of("p07;hh00;");
        for (int i = 0; i < 16; i++) {
            x.days(60);
        }
        DUE.is("day 960", x.count(2), 960);
        DUE.is("days(40)", x.days(40), -6);
        DUE.is("day 960 still", x.count(2), 960);
        DUE.is("days(39)", x.days(39), 7);
        DUE.is("day 999", x.count(2), 999);
        DUE.is("days(1)", x.days(1), -6);
        x.sails(0);
        DUE.is("in thought beyond 999", x.shipThen(60), 7);
        DUE.is("in thought beyond 999", x.comes(0), 7);
        DUE.is("count(16)", x.count(16), 2);
    }

    private static void awayToTheEdge() {
        NeedleToTheMissed x = Due.of("p00;hq00;s09;");
        DUE.is("needle", x.needle(), 1);
        DUE.is("shipThen(60)", x.shipThen(60), 15);
        DUE.is("needle at the edge", x.needleThen(60), 1);
        DUE.is("door(1)", x.door(1), -9);
        DUE.is("door(2)", x.door(2), 6);
        DUE.is("way(5)", x.way(5), 5);
        DUE.is("way(60)", x.way(60), 6);
        DUE.is("comes(0)", x.comes(0), -9);
        DUE.is("door(0)", x.door(0), -9);
        // At each side of the sea the ship stays, though the needle points on.
        String[] texts = {"p56;hq00;", "p07;hq00;s00;", "p07;hq00;s63;", "p56;hq00;s63;"};
        int[] needles = {0, 3, 2, 1};
        int[] ships = {0, 0, 63, 63};
        for (int i = 0; i < texts.length; i++) {
            x = Due.of(texts[i]);
            DUE.is("needle of " + texts[i], x.needle(), needles[i]);
            DUE.is("stays in " + texts[i], x.days(1), ships[i]);
        }
    }

    private static void ashoreDoesNotPull() {
        NeedleToTheMissed x = Due.of("p07;p56;hh00;hw91;d04;s00;a1;");
        DUE.is("needle", x.needle(), 1);
        DUE.is("seaThen(1, 3)", x.seaThen(1, 3), 1);
        DUE.is("seaThen(1, 9)", x.seaThen(1, 9), 0);
        DUE.is("comes(0)", x.comes(0), 7);
        DUE.is("comes(1)", x.comes(1), -9);
        x.boards(1);
        DUE.is("needle with him", x.needle(), 2);
    }

    private static void firstOfPlaces() {
        NeedleToTheMissed x = Due.of("p07;p04;p05;p04;hh00;");
        DUE.is("the first on the way, of several the least", x.door(0), 1);
        x.sails(5);
        DUE.is("the one it is at", x.door(0), 2);
        DUE.is("comes at once", x.comes(2), 0);
    }

    private static void theLastDaysLookedAt() {
        // SEA 49 and 35: their leans are alike first when one has 99 and the other 95, behind 60 days.
        DUE.is("spins at 60", Due.of("p29;hq00;d14;hh30;d35;s05;").door(1), 60);
        DUE.is("would spin at 61", Due.of("p29;hq00;d15;hh30;d34;s05;").door(1), -9);
        DUE.is("rests at 60", Due.of("p28;p30;hh20;d15;hh61;d35;s50;").door(2), 60);
        DUE.is("would rest at 61", Due.of("p28;p30;hh20;d16;hh61;d34;s50;").door(2), -9);
        // x = SEA by 5 and 1: 4x and x against 4x and 12: it goes from SEA 60 on.
        NeedleToTheMissed x = Due.of("p01;hb00;hb00;hh00;hq90;hq90;hq90;hq90;");
        DUE.is("comes at 61", x.comes(0), -9);
        DUE.is("door at 61", x.door(0), -9);
        DUE.is("spins at 55", x.door(1), 55);
        DUE.is("way(60)", x.way(60), 0);
        x.days(1);
        DUE.is("comes at 60", x.comes(0), 60);
        DUE.is("door at 60", x.door(0), 0);
        DUE.is("way(59)", x.way(59), 0);
        DUE.is("way(60)", x.way(60), 1);
        DUE.is("shipThen(59)", x.shipThen(59), 0);
        DUE.is("shipThen(60)", x.shipThen(60), 1);
    }

    private static void wrongNumbers() {
        NeedleToTheMissed x = Due.of("p07;hh00;");
        DUE.is("days(0)", x.days(0), -4);
        DUE.is("days(61)", x.days(61), -6);
        DUE.is("shipThen(-1)", x.shipThen(-1), -4);
        DUE.is("shipThen(61)", x.shipThen(61), -6);
        DUE.is("needleThen(-1)", x.needleThen(-1), -4);
        DUE.is("needleThen(61)", x.needleThen(61), -6);
        DUE.is("seaThen(1, -1)", x.seaThen(1, -1), -1);
        DUE.is("seaThen(-1, 0)", x.seaThen(-1, 0), -1);
        DUE.is("seaThen(0, -1)", x.seaThen(0, -1), -4);
        DUE.is("seaThen(0, 61)", x.seaThen(0, 61), -6);
        DUE.is("comes(1)", x.comes(1), -1);
        DUE.is("comes(-1)", x.comes(-1), -1);
        DUE.is("door(3)", x.door(3), -2);
        DUE.is("door(-1)", x.door(-1), -2);
        DUE.is("way(0)", x.way(0), -4);
        DUE.is("way(61)", x.way(61), -6);
        int[] wants = {4, 2, 0, 5, 0, 5};
        for (int i = 0; i < wants.length; i++) {
            DUE.is("count(" + (11 + i) + ")", x.count(11 + i), wants[i]);
        }
    }
}
