/** The boundary cases of promises 34 to 37: log, row, judge, clear. */
public final class BoundsOfRowTest {
    private static final Due DUE = new Due();

    public static void main(String[] args) {
        row();
        clear();
        logOfNoRow();
        logOfAFullRow();
        logOfCells();
        logOfKinds();
        judge();
        judgeOfAFullRow();
        judgeOfNumbers();
        DUE.end();
    }

    private static void fill(NeedleToTheMissed x, int... numbers) {
        x.clear();
        for (int v : numbers) {
            x.row(v);
        }
    }

    private static void fillAlike(NeedleToTheMissed x, int many, int v) {
        x.clear();
        for (int i = 0; i < many; i++) {
            x.row(v);
        }
    }

    private static void row() {
        DUE.terms("A ROW of numbers (0 .. 99; 16 at most):");
        DUE.promise(35, "A number more of the ROW (0 .. 99): how many. -4; -6 (99; 16, too).");
        NeedleToTheMissed x = new NeedleToTheMissed();
        DUE.are(x, "row(-1) -4", "row(100) -6", "count(6) 0", "row(0) 1", "row(99) 2", "row(-1) -4", "row(100) -6",
            "count(6) 2");
        for (int i = 3; i <= 15; i++) {
            DUE.is("row " + i, x.row(i), i);
        }
        DUE.are(x, "row(99) 16", "row(99) -6", "row(0) -6", "row(100) -6", "row(-1) -4", "count(6) 16", "count(14) 3",
            "count(16) 5", "clear() 16", "row(0) 1");
    }

    private static void clear() {
        DUE.promise(37, "The ROW has none then: how many it had.");
        NeedleToTheMissed x = new NeedleToTheMissed();
        DUE.are(x, "clear() 0", "row(1) 1", "clear() 1", "clear() 0", "count(6) 0", "judge() -9");
        fillAlike(x, 16, 9);
        DUE.are(x, "clear() 16", "count(6) 0", "row(0) 1", "judge() 0");
    }

    private static void logOfNoRow() {
        DUE.terms("LOG: a ROW tells where THE SHIP is behind 0, 1, .. DAYS: PLACES (bits) that a told HAND could MISS so"
            + " that all of it is so; KINDS (bits) of him.");
        DUE.promise(34, "LOG by the ROW (it stays): PLACES (what 0, bits), KINDS (1). -1; -2.");
        NeedleToTheMissed x = Due.of(Seas.FULL_TEXT);
        DUE.are(x, "log(0, 0) 63", "log(6, 0) 63", "log(0, 1) 63", "log(6, 1) 63", "log(7, 0) -1", "log(-1, 0) -1",
            "log(0, 2) -2", "log(0, -1) -2", "log(7, 2) -1");
        DUE.are(Due.of("p00;hh00;"), "log(0, 0) 1", "log(0, 1) 63");
        DUE.are(new NeedleToTheMissed(), "log(0, 0) -1");
    }

    private static void logOfAFullRow() {
        DUE.terms("LOG: a ROW tells where THE SHIP is behind 0, 1, .. DAYS:");
        NeedleToTheMissed x = Due.of("p00;p63;p14;p07;p62;p00;hh00;");
        fillAlike(x, 16, 0);
        DUE.are(x, "log(0, 0) 33", "log(0, 0) 33", "count(6) 16", "log(0, 1) 63");
        fill(x, 0, 1, 2, 3, 4, 5, 6, 7, 7, 7, 7, 7, 7, 7, 7, 7);
        DUE.are(x, "log(0, 0) 8", "log(0, 1) 0");
        // To 63 it takes 14 days, along its row first; the 16th number is of 15 days on.
        fill(x, 0, 1, 2, 3, 4, 5, 6, 7, 15, 23, 31, 39, 47, 55, 63, 63);
        DUE.are(x, "log(0, 0) 2", "log(0, 1) 0", "misses(0, 1) 0", "log(0, 0) 2", "log(0, 1) 43");
        fill(x, 0, 1, 2, 3, 4, 5, 6, 7, 15, 23, 31, 39, 47, 55, 63, 62);
        DUE.are(x, "log(0, 0) 0", "log(0, 1) 0");
        fill(x, 0, 8, 16, 24, 32, 40, 48, 56, 57, 58, 59, 60, 61, 62, 63, 63);
        DUE.are(x, "log(0, 0) 0", "log(0, 1) 0");
        // One number: where the ship is now, whomever he misses.
        fill(x, 0);
        DUE.are(x, "log(0, 0) 63", "log(0, 1) 63");
        fill(x, 1);
        DUE.are(x, "log(0, 0) 0", "log(0, 1) 0");
        // Ashore it is all the same whom he misses.
        x.boards(0);
        fillAlike(x, 16, 0);
        DUE.are(x, "log(0, 0) 63", "log(0, 1) 63");
    }

    private static void logOfCells() {
        NeedleToTheMissed x = Due.of("p63;hh00;s63;");
        fill(x, 63, 63);
        DUE.are(x, "log(0, 0) 1");
        fill(x, 63, 64);
        DUE.are(x, "log(0, 0) 0");
        fill(x, 99);
        DUE.are(x, "log(0, 0) 0", "log(0, 1) 0");
    }

    private static void logOfKinds() {
        DUE.terms("KINDS (bits) of him.");
        // Near by a drunk pulls 4, a whaler with 9 pulls 4, with 5 and a boy 2, against 1, 2, 3, 4 of others.
        NeedleToTheMissed x = Due.of("p19;p28;hh90;hm01;s27;");
        fill(x, 27, 19);
        DUE.are(x, "log(0, 1) 43", "turn(1, 0, 0) 20", "log(0, 1) 42", "turn(1, 1, 0) 0", "log(0, 1) 40",
            "turn(1, 3, 9) 10", "log(0, 1) 0", "turn(1, 3, 6) 39", "log(0, 1) 40", "turn(0, 0, 8) 9", "log(0, 1) 32",
            "hand(0, 0) 0");
        fill(x, 27, 28);
        DUE.are(x, "log(0, 1) 31");
        fill(x, 27, 35);
        DUE.are(x, "log(0, 1) 0", "turn(1, 2, 0) 36", "log(0, 1) 16");
        fill(x, 27, 27);
        DUE.are(x, "log(0, 1) 4");
    }

    private static void judge() {
        DUE.terms("JUDGED: where THE NEEDLE points behind 0, 1, .. DAYS (9: it SPINS): the first that is not so; -9.");
        DUE.promise(36, "JUDGED; -9 (whichever it answers, the ROW has none then).");
        NeedleToTheMissed x = Due.of("p02;hh00;");
        DUE.are(x, "judge() -9", "row(1) 1", "judge() -9", "count(6) 0", "judge() -9", "row(9) 1", "judge() 0",
            "count(6) 0", "judge() -9", "count(3) 0", "count(2) 0");
        fill(x, 1, 1, 9);
        DUE.are(x, "judge() -9", "count(6) 0");
        fill(x, 1, 1, 1);
        DUE.are(x, "judge() 2", "count(6) 0");
        fill(x, 1, 9, 9);
        DUE.are(x, "judge() 1");
        fill(x, 1, 0, 0);
        DUE.are(x, "judge() 1");
    }

    private static void judgeOfAFullRow() {
        NeedleToTheMissed x = Due.of("p63;hh00;");
        fill(x, 1, 2, 1, 2, 1, 2, 1, 2, 1, 2, 1, 2, 1, 2, 9, 9);
        long due = x.judge();
        x.clear();
        for (int i = 0; i < 16; i++) {
            x.row(Math.abs(x.needleThen(i)));
        }
        DUE.are(x, "count(6) 16", "judge() -9", "count(6) 0");
        for (int i = 0; i < 16; i++) {
            x.row(i == 15 ? 1 : Math.abs(x.needleThen(i)));
        }
        DUE.are(x, "judge() 15", "count(6) 0");
        DUE.holds("the first way is another: " + due, due >= 0 && due < 15);
        x = new NeedleToTheMissed();
        fillAlike(x, 16, 9);
        DUE.are(x, "judge() -9");
        for (int wrong = 0; wrong < 16; wrong++) {
            for (int i = 0; i < 16; i++) {
                x.row(i >= wrong ? 0 : 9);
            }
            DUE.are(x, "judge() " + wrong, "count(6) 0");
        }
    }

    /** No number but the course's own is so: not 4 to 8, not 10 to 99. */
    private static void judgeOfNumbers() {
        String[] seas = {"p19;hh00;s27;", "p28;hh00;s27;", "p35;hh00;s27;", "p26;hh00;s27;", "p27;hh00;s27;"};
        int[] courses = {0, 1, 2, 3, 9};
        for (int i = 0; i < seas.length; i++) {
            NeedleToTheMissed x = Due.of(seas[i]);
            for (int v = 0; v <= 99; v++) {
                x.row(v);
                DUE.is("judge() of " + v + " in " + seas[i], x.judge(), v == courses[i] ? -9 : 0);
            }
        }
    }
}
