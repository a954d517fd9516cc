/** Promises 32, 33 and 38: storm, mean, lots. */
public final class OddsTest {
    private static final long REFUSED = 4000000000000000000L;
    private static final Due DUE = new Due();

    public static void main(String[] args) {
        storm();
        stormWrong();
        mean();
        lots();
        DUE.end();
    }

    private static void stormIs(NeedleToTheMissed x, int n, int t, long over, long under) {
        String call = "storm(0, " + n + ", " + t + ", ";
        DUE.is(call + "0)", x.storm(0, n, t, 0), over);
        DUE.is(call + "1)", x.storm(0, n, t, 1), under);
    }

    private static void storm() {
        NeedleToTheMissed x = Due.of("p02;hh00;");
        stormIs(x, 0, 2, 0, 1);
        stormIs(x, 1, 2, 0, 1);
        stormIs(x, 2, 3, 4, 9);
        stormIs(x, 3, 2, 1, 2);
        // All but no going and one going of 7.
        stormIs(x, 7, 20, 639999933L, 640000000L);
        DUE.is("the ship is where it was", x.count(3), 0);
        DUE.is("the day is what it was", x.count(2), 0);
        DUE.is("SEA is what it was", x.count(5), 0);
        x.sails(2);
        stormIs(x, 7, 20, 1, 1);
        // All else goes on: the boy is as strong as the quarreller at SEA 10, stronger at 15.
        x = Due.of("p01;hb00;hq90;d14;s00;");
        stormIs(x, 1, 5, 0, 1);
        stormIs(x, 2, 5, 4, 5);
        // Over the place and on: goes on 1 of 2 days.
        x = Due.of("p01;p03;hh01;");
        stormIs(x, 2, 4, 3, 8);
    }

    private static void stormWrong() {
        NeedleToTheMissed x = Due.of("p02;hh00;");
        DUE.is("no place", x.storm(1, -1, 1, 2), REFUSED + 1);
        DUE.is("no place", x.storm(-1, 0, 2, 0), REFUSED + 1);
        DUE.is("n below", x.storm(0, -1, 21, 2), REFUSED + 4);
        DUE.is("t below, n above", x.storm(0, 8, 1, 2), REFUSED + 4);
        DUE.is("n above", x.storm(0, 8, 2, 2), REFUSED + 6);
        DUE.is("t above", x.storm(0, 7, 21, 2), REFUSED + 6);
        DUE.is("part", x.storm(0, 7, 20, 2), REFUSED + 2);
        DUE.is("part", x.storm(0, 7, 20, -1), REFUSED + 2);
        int[] wants = {2, 2, 0, 2, 0, 2};
        for (int i = 0; i < wants.length; i++) {
            DUE.is("count(" + (11 + i) + ")", x.count(11 + i), wants[i]);
        }
    }

    private static void mean() {
        NeedleToTheMissed x = Due.of("p00;hh00;d03;hh00;d01;hh00;d01;");
        DUE.is("5, 2, 1 above", x.mean(0), 8);
        DUE.is("5, 2, 1 below", x.mean(1), 3);
        x.boards(1);
        DUE.is("5, 1 above", x.mean(0), 3);
        DUE.is("5, 1 below", x.mean(1), 1);
        x.boards(0);
        x.boards(2);
        DUE.is("nobody above", x.mean(0), 0);
        DUE.is("nobody below", x.mean(1), 1);
        x = Due.of("p00;hh00;d01;hh00;");
        DUE.is("1, 0 above", x.mean(0), 1);
        DUE.is("1, 0 below", x.mean(1), 2);
        x = Due.of("p00;hh00;d07;");
        DUE.is("7 above", x.mean(0), 7);
        DUE.is("7 below", x.mean(1), 1);
        x = Due.of("p00;hh00;hh00;");
        DUE.is("0 above", x.mean(0), 0);
        DUE.is("0 below", x.mean(1), 1);
        DUE.is("mean(2)", x.mean(2), REFUSED + 2);
        DUE.is("mean(-1)", x.mean(-1), REFUSED + 2);
        DUE.is("count(12)", x.count(12), 2);
    }

    private static void lots() {
        // Seed 0: 1013904223, without its sign's bit by 256 3960563, modulo 64 51.
        NeedleToTheMissed x = new NeedleToTheMissed();
        DUE.is("the first draw", x.lots(1, 0, 1), 51);
        DUE.is("five draws", x.lots(5, 7, 1), 181);
        DUE.is("no places", x.lots(20, 7, 0), 0);
        Due.tell(x, "p51;p51;");
        DUE.is("one end, though two places", x.lots(1, 0, 0), 1);
        Due.tell(x, "hm00;");
        DUE.is("a hand's SEA is drawn, too", x.lots(2, 0, 1), 51 + secondShip());
        // No cell is farther from 27 than 8 steps, so that 12 days suffice for all.
        x = Due.of("p27;hh00;");
        DUE.is("all end there", x.lots(20, 99, 0), 20);
        DUE.is("all ends together", x.lots(20, 99, 1), 20 * 27);
        // From 0 to 63 it is 14 steps: of a start at 51 it comes, of one at 0 it does not.
        Due.tell(x, "p63;m01;");
        int ends = 0;
        for (int z = 0; z < 64; z++) {
            ends += x.lots(1, seedOfFirst(z), 1) == 63 ? 1 : 0;
        }
        DUE.is("all cells but those 13 steps off and 14", ends, 61);
        DUE.is("SEA is what it was", x.count(5), 0);
        DUE.is("the ship is where it was", x.count(3), 0);
        DUE.is("lots(0, 0, 2)", x.lots(0, 0, 2), -4);
        DUE.is("lots(21, 0, 2)", x.lots(21, 0, 2), -6);
        DUE.is("lots(20, 0, 2)", x.lots(20, 0, 2), -2);
        DUE.is("lots(1, 0, -1)", x.lots(1, 0, -1), -2);
    }

    /** A seed whose first draw below 64 is the cell. */
    private static int seedOfFirst(int cell) {
        for (int z = 0; z < 100000; z++) {
            if (((z * 1664525 + 1013904223) & 0x7fffffff) / 256 % 64 == cell) {
                return z;
            }
        }
        return -1;
    }

    /** The third draw from seed 0: behind the first ship's and one SEA's. */
    private static int secondShip() {
        long z = 0;
        for (int i = 0; i < 3; i++) {
            z = (z * 1664525L + 1013904223L) % (1L << 32);
        }
        return (int) (z % (1L << 31) / 256 % 64);
    }
}
