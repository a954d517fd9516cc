/** Promises 22 to 26, 28 and 29: turners, pull, strongest, missed, opposed, home, nearest. */
public final class PullTest {
    private static final Due DUE = new Due();

    public static void main(String[] args) {
        turnersAndPull();
        strongest();
        missed();
        opposed();
        homeAndNearest();
        DUE.end();
    }

    private static void turnersAndPull() {
        NeedleToTheMissed x = Due.of("p31;p24;hh00;hh00;hh01;s27;");
        DUE.is("pull(0)", x.pull(0), 0);
        DUE.is("pull(1)", x.pull(1), 1);
        DUE.is("without either it spins", x.turners(), 3);
        x.boards(2);
        DUE.is("pull(1)", x.pull(1), 2);
        DUE.is("one is enough", x.turners(), 0);
        x.boards(2);
        x.sails(35);
        DUE.is("pull(0) below 0", x.pull(0), -3);
        DUE.is("pull(1)", x.pull(1), 1);
        DUE.is("without 2, rows -2 and columns 2", x.turners(), 4);
        x.turn(0, 4, 9);
        DUE.is("a quarreller's rows", x.pull(0), 4 - 2);
        DUE.is("a quarreller's columns", x.pull(1), -4 + 1 - 1);
        DUE.is("needle", x.needle(), 3);
        DUE.is("without 0, rows -2 and columns 0", x.turners(), 1);
        DUE.is("pull(2)", x.pull(2), 1000000002);
        DUE.is("pull(-1)", x.pull(-1), 1000000002);
        DUE.is("count(12)", x.count(12), 2);
        DUE.is("who is aboard", x.count(4), 7);
    }

    private static void strongest() {
        NeedleToTheMissed x = Due.of("p31;hh00;hb00;hb00;hq90;hm90;s27;");
        DUE.is("farthest from 0", x.strongest(), 3);
        x.boards(3);
        DUE.is("of several the least", x.strongest(), 1);
        x.boards(1);
        x.boards(2);
        x.boards(0);
        DUE.is("a master alone", x.strongest(), 4);
        x.boards(0);
        DUE.is("the first", x.strongest(), 0);
        x.boards(0);
        x.boards(4);
        DUE.is("nobody aboard", x.strongest(), -9);
    }

    private static void missed() {
        NeedleToTheMissed x = Due.of("p31;p24;p00;hq00;hh01;hb01;");
        DUE.is("missed(0)", x.missed(0), 1);
        DUE.is("missed(1)", x.missed(1), 3);
        x.boards(1);
        x.boards(2);
        DUE.is("of several the least", x.missed(0), 1);
        DUE.is("nobody's", x.missed(1), 0);
        x.misses(0, 1);
        DUE.is("0 is more than below 0", x.missed(0), 0);
        x = Due.of("p31;hq90;");
        DUE.is("one place", x.missed(0), 0);
        DUE.is("below 0", x.missed(1), -4);
        DUE.is("missed(2)", x.missed(2), 1000000002);
        DUE.is("missed(-1)", x.missed(-1), 1000000002);
        DUE.is("count(12)", x.count(12), 2);
        x = new NeedleToTheMissed();
        DUE.is("no places", x.missed(0), -9);
        DUE.is("no places", x.missed(1), 0);
    }

    private static void opposed() {
        // Above, below, left, right of 27, and where it is.
        NeedleToTheMissed x = Due.of("p03;p59;p24;p31;p27;hh00;hh01;hh02;hh03;hh04;s27;");
        DUE.is("rows and columns", x.opposed(), 2);
        x.boards(0);
        DUE.is("aboard alone", x.opposed(), 1);
        x.boards(3);
        DUE.is("none", x.opposed(), 0);
        x.boards(0);
        x.boards(3);
        x.misses(4, 0);
        DUE.is("two above", x.opposed(), 3);
        DUE.is("both ways are one two", Due.of("p00;p63;hm00;hm01;s27;").opposed(), 1);
        DUE.is("the same way", Due.of("p00;p01;hm00;hm01;s27;").opposed(), 0);
        DUE.is("nobody", new NeedleToTheMissed().opposed(), 0);
    }

    private static void homeAndNearest() {
        NeedleToTheMissed x = Due.of("p63;p20;p18;p43;hh00;hm01;s27;");
        DUE.is("home(0)", x.home(0), 8);
        DUE.is("home(1)", x.home(1), 2);
        x.boards(0);
        DUE.is("home ashore", x.home(0), 8);
        DUE.is("home(2)", x.home(2), -1);
        DUE.is("home(-1)", x.home(-1), -1);
        DUE.is("of several the least", x.nearest(), 1);
        x.sails(62);
        DUE.is("nearest", x.nearest(), 0);
        x.sails(0);
        DUE.is("nearest", x.nearest(), 2);
        DUE.is("far", Due.of("p63;").nearest(), 0);
        DUE.is("none", new NeedleToTheMissed().nearest(), -9);
    }
}
