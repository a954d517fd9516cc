import java.math.BigInteger;

/** The boundary cases of promises 32, 33 and 38: storm, mean, lots. */
public final class BoundsOfOddsTest {
    private static final long REFUSED = 4000000000000000000L;
    private static final Due DUE = new Due();

    public static void main(String[] args) {
        stormOfNoDays();
        stormOfManyDays();
        stormInLeastTerms();
        allElseGoesOn();
        mean();
        draws();
        lots();
        lotsAreFromNow();
        lotsOfTwo();
        lotsOfOneAshore();
        DUE.end();
    }

    private static void stormIs(NeedleToTheMissed x, String args, long above, long below) {
        DUE.is("storm(" + args + ", 0)", Calls.call(x, "storm(" + args + ", 0)"), above);
        DUE.is("storm(" + args + ", 1)", Calls.call(x, "storm(" + args + ", 1)"), below);
    }

    private static void stormOfNoDays() {
        DUE.terms("STORM: on each of n DAYS (0 .. 7), by itself, with odds 1 in t (2 .. 20) THE SHIP stays (all else goes"
            + " on): how likely it is AT a PLACE behind these: a fraction.");
        DUE.promise(32, "STORM, part 0 above, 1 below the line. Refused as told: -1; -4 (n; t below 2); -6 (7; 20); -2.");
        NeedleToTheMissed x = Due.of("p00;p63;hh01;");
        stormIs(x, "0, 0, 2", 1, 1);
        stormIs(x, "0, 0, 20", 1, 1);
        DUE.terms("Fractions are told in least terms; 0 as 0 by 1.");
        stormIs(x, "1, 0, 2", 0, 1);
        stormIs(x, "1, 7, 20", 0, 1);
        DUE.is("no place", x.storm(2, 0, 2, 0), REFUSED + 1);
        DUE.is("days below", x.storm(0, -1, 2, 0), REFUSED + 4);
        DUE.is("odds below", x.storm(0, 0, 1, 0), REFUSED + 4);
        DUE.is("days above", x.storm(0, 8, 2, 0), REFUSED + 6);
        DUE.is("odds above", x.storm(0, 0, 21, 0), REFUSED + 6);
        DUE.is("part", x.storm(0, 0, 2, 2), REFUSED + 2);
        DUE.is("part", x.storm(0, 0, 2, -1), REFUSED + 2);
    }

    private static void stormOfManyDays() {
        DUE.terms("STORM: on each of n DAYS (0 .. 7), by itself, with odds 1 in t (2 .. 20) THE SHIP stays");
        // It goes on each of seven days, or on all but one, or on none.
        NeedleToTheMissed x = Due.of("p07;p06;p00;hh00;");
        stormIs(x, "0, 7, 2", 1, 128);
        stormIs(x, "1, 7, 2", 7, 128);
        stormIs(x, "2, 7, 2", 1, 128);
        stormIs(x, "0, 7, 20", 893871739L, 1280000000L);
        stormIs(x, "1, 7, 20", 329321167L, 1280000000L);
        stormIs(x, "2, 7, 20", 1, 1280000000L);
        stormIs(x, "0, 6, 20", 0, 1);
        stormIs(x, "0, 7, 19", 612220032L, 893871739L);
        stormIs(x, "0, 1, 2", 0, 1);
        stormIs(x, "2, 1, 2", 1, 2);
        stormIs(x, "2, 1, 20", 1, 20);
        // Where it would not go, it is sure to stay.
        stormIs(Due.of("p00;p01;hq01;"), "0, 7, 20", 1, 1);
        stormIs(Due.of("p63;s63;"), "0, 7, 2", 1, 1);
    }

    private static void stormInLeastTerms() {
        DUE.terms("Fractions are told in least terms; 0 as 0 by 1.");
        NeedleToTheMissed x = Due.of("p01;p03;hh01;");
        stormIs(x, "0, 1, 2", 1, 2);
        stormIs(x, "0, 2, 2", 1, 2);
        stormIs(x, "0, 2, 4", 3, 8);
        stormIs(x, "0, 3, 3", 2, 9);
        stormIs(x, "1, 3, 4", 27, 64);
        stormIs(x, "1, 4, 4", 189, 256);
        stormIs(x, "1, 4, 2", 5, 16);
    }

    private static void allElseGoesOn() {
        DUE.terms("THE SHIP stays (all else goes on):");
        // SEA 4: behind a day the pull down is 2 against 1, whether the ship has gone or not.
        NeedleToTheMissed x = Due.of("p56;hh00;d04;p07;hh01;p09;p01;p08;s00;");
        DUE.are(x, "needle() 1");
        stormIs(x, "2, 2, 2", 1, 4);
        stormIs(x, "3, 2, 2", 1, 4);
        stormIs(x, "4, 2, 2", 1, 4);
        stormIs(x, "4, 2, 5", 4, 25);
        // Ashore SEA goes down meanwhile; the ship's DAY does not matter.
        x = Seas.full();
        stormIs(x, "5, 0, 20", x.count(3) == 36 ? 1 : 0, 1);
    }

    private static void mean() {
        DUE.terms("MEAN: of SEA of all ABOARD: a fraction (0 by 1 of nobody).");
        DUE.promise(33, "MEAN. Refused as told: -2.");
        meanIs(new NeedleToTheMissed(), 0, 1);
        meanIs(Due.of("p00;hh00;d09;a0;"), 0, 1);
        meanIs(Due.of("p00;hh00;hh00;hh00;hh00;hh00;hh00;hh00;"), 0, 1);
        meanIs(Due.of("p00;hh00;d01;hh00;hh00;hh00;hh00;hh00;hh00;"), 1, 7);
        meanIs(Due.of("p00;hh00;hh00;hh00;hh00;hh00;hh00;d01;hh00;"), 6, 7);
        meanIs(Due.of("p00;hh00;hh00;hh00;d01;hh00;hh00;hh00;"), 1, 2);
        meanIs(Due.of("p00;hh00;hh00;hh00;hh00;hh00;hh00;hh00;d60;d60;"), 99, 1);
        NeedleToTheMissed x = Due.of("p00;hh00;d60;d39;hh00;");
        meanIs(x, 99, 2);
        x.boards(0);
        meanIs(x, 0, 1);
        x.boards(1);
        meanIs(x, 0, 1);
        x.boards(0);
        meanIs(x, 99, 1);
        DUE.is("mean(2)", x.mean(2), REFUSED + 2);
        DUE.is("mean(-1)", x.mean(-1), REFUSED + 2);
    }

    private static void meanIs(NeedleToTheMissed x, long above, long below) {
        DUE.is("mean(0)", x.mean(0), above);
        DUE.is("mean(1)", x.mean(1), below);
    }

    /** DRAWS from a seed, by whole numbers without end. */
    private static final class Draws {
        private BigInteger z;

        Draws(int seed) {
            z = BigInteger.valueOf(seed);
        }

        int below(int m) {
            z = BigInteger.valueOf(z.multiply(BigInteger.valueOf(1664525)).add(BigInteger.valueOf(1013904223)).intValue());
            BigInteger without = z.signum() < 0 ? z.add(BigInteger.ONE.shiftLeft(31)) : z;
            return without.divide(BigInteger.valueOf(256)).mod(BigInteger.valueOf(m)).intValueExact();
        }
    }

    private static void draws() {
        DUE.terms("A DRAW below m: z becomes z times 1664525 and 1013904223 (an int);");
        // Of a ship that nobody turns: the ends are the draws.
        NeedleToTheMissed x = new NeedleToTheMissed();
        DUE.are(x, "lots(1, 0, 1) 51");
        DUE.terms("(z without its sign's bit by 256, cut) modulo m.");
        int[] seeds = {0, 1, -1, 2, 255, 256, Integer.MAX_VALUE, Integer.MIN_VALUE, Integer.MIN_VALUE + 1, 1 << 30,
            -(1 << 30), 1013904223, -1013904223, 1664525};
        for (int seed : seeds) {
            Draws draws = new Draws(seed);
            int together = 0;
            for (int n = 1; n <= 20; n++) {
                together += draws.below(64);
                DUE.is("lots(" + n + ", " + seed + ", 1)", x.lots(n, seed, 1), together);
            }
            DUE.is("lots(20, " + seed + ", 0)", x.lots(20, seed, 0), 0);
        }
        // An eye on the sign's bit: seeds whose first z is below 0 and not.
        int below = 0;
        for (int seed = 0; seed < 40 * 97; seed += 97) {
            below += seed * 1664525 + 1013904223 < 0 ? 1 : 0;
            DUE.is("lots(1, " + seed + ", 1)", x.lots(1, seed, 1), new Draws(seed).below(64));
        }
        DUE.holds("both kinds of seeds", below > 5 && below < 35);
    }

    private static void lots() {
        DUE.terms("LOTS with a seed z: n voyages (1 .. 20), each from now: THE SHIP AT a DRAW below 64, then SEA of each"
            + " HAND, by numbers, a DRAW below 40, then 12 DAYS: how many end AT a PLACE; CELLS of all ends together.");
        DUE.promise(38, "LOTS: AT a PLACE (what 0), CELLS (1). -4; -6 20; -2.");
        NeedleToTheMissed x = Due.of("p27;p27;hh00;");
        DUE.are(x, "lots(0, 7, 0) -4", "lots(21, 7, 0) -6", "lots(1, 7, 2) -2", "lots(1, 7, -1) -2", "lots(1, 7, 0) 1",
            "lots(20, 7, 0) 20", "lots(20, 7, 1) 540", "lots(1, least, 0) 1", "lots(20, greatest, 1) 540");
        // 12 days: 13 steps are too far, 12 are not. Hands draw, too: one here.
        x = Due.of("p00;hh00;");
        int ends = 0;
        for (int seed = 0; seed < 200; seed++) {
            int start = new Draws(seed).below(64);
            int steps = start / 8 + start % 8;
            DUE.is("lots(1, " + seed + ", 0) from " + start, x.lots(1, seed, 0), steps <= 12 ? 1 : 0);
            ends += steps > 12 ? 1 : 0;
        }
        DUE.holds("some begin too far off", ends > 0);
        DUE.are(x, "count(3) 0", "count(5) 0", "count(2) 0");
    }

    /** What was thought ahead of it does not matter, nor does a voyage to the next. */
    private static void lotsAreFromNow() {
        DUE.terms("n voyages (1 .. 20), each from now:");
        String text = "p00;p63;hh00;hb01;hd00;";
        String[] ahead = {"crew(1, 30)", "sign(1, 0)", "ashore(0)", "letters(1, 30)", "log(0, 0)", "log(0, 1)", "turners()",
            "shipThen(60)", "storm(0, 7, 20, 0)", "two(0, 1, 30)", "lots(20, 3, 0)"};
        for (String call : ahead) {
            NeedleToTheMissed x = Due.of(text);
            long due = x.lots(7, 11, 1);
            Calls.call(x, call);
            DUE.is("lots(7, 11, 1) behind " + call, x.lots(7, 11, 1), due);
        }
    }

    /** SEA by numbers, below 40: each voyage once more by the calls that are as told. */
    private static void lotsOfTwo() {
        DUE.terms("then SEA of each HAND, by numbers, a DRAW below 40, then 12 DAYS:");
        NeedleToTheMissed x = Due.of("p03;p60;hb00;hw31;");
        int many = 0;
        for (int seed = -60; seed < 60; seed++) {
            Draws draws = new Draws(seed);
            int cell = draws.below(64);
            int first = draws.below(40);
            int second = draws.below(40);
            NeedleToTheMissed y = Due.of("p03;p60;hb00;hw31;");
            beAtSea(y, first, second);
            y.sails(cell);
            int end = y.days(12);
            DUE.is("lots(1, " + seed + ", 1)", x.lots(1, seed, 1), end);
            DUE.is("lots(1, " + seed + ", 0)", x.lots(1, seed, 0), end == 3 || end == 60 ? 1 : 0);
            many += end == 3 || end == 60 ? 1 : 0;
        }
        DUE.holds("some end at a place, some do not", many > 10 && many < 110);
    }

    /** Each HAND draws, those ashore, too. */
    private static void lotsOfOneAshore() {
        DUE.terms("then SEA of each HAND, by numbers, a DRAW below 40,");
        NeedleToTheMissed x = Due.of("p03;p60;hb00;hh31;hq90;a0;");
        for (int seed = 0; seed < 60; seed++) {
            Draws draws = new Draws(seed);
            int cell = draws.below(64);
            draws.below(40);
            int second = draws.below(40);
            int third = draws.below(40);
            NeedleToTheMissed y = Due.of("p03;p60;hh31;hq90;");
            beAtSea(y, second, third);
            y.sails(cell);
            DUE.is("lots(1, " + seed + ", 1), one ashore", x.lots(1, seed, 1), y.days(12));
        }
    }

    /** Both HANDS, aboard with SEA 0, come to have so much: who needs less stays ashore at first. */
    private static void beAtSea(NeedleToTheMissed y, int first, int second) {
        int later = first < second ? 0 : 1;
        int most = Math.max(first, second);
        int least = Math.min(first, second);
        y.boards(later);
        if (most > least) {
            y.days(most - least);
        }
        y.boards(later);
        if (least > 0) {
            y.days(least);
        }
        if (y.hand(0, 3) != first || y.hand(1, 3) != second) {
            throw new IllegalStateException("SEA is " + y.hand(0, 3) + ", " + y.hand(1, 3));
        }
    }
}
