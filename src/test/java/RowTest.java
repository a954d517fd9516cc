/** Promises 34 to 37: log, row, judge, clear. */
public final class RowTest {
    private static final Due DUE = new Due();

    public static void main(String[] args) {
        rowAndClear();
        log();
        judge();
        DUE.end();
    }

    private static void fill(NeedleToTheMissed x, int... numbers) {
        x.clear();
        for (int v : numbers) {
            x.row(v);
        }
    }

    private static void rowAndClear() {
        NeedleToTheMissed x = new NeedleToTheMissed();
        DUE.is("clear()", x.clear(), 0);
        DUE.is("row(-1)", x.row(-1), -4);
        DUE.is("row(100)", x.row(100), -6);
        DUE.is("row(0)", x.row(0), 1);
        DUE.is("row(99)", x.row(99), 2);
        for (int i = 3; i <= 16; i++) {
            DUE.is("row " + i, x.row(7), i);
        }
        DUE.is("row 17", x.row(7), -6);
        DUE.is("row 17 below", x.row(-1), -4);
        DUE.is("count(6)", x.count(6), 16);
        DUE.is("clear()", x.clear(), 16);
        DUE.is("count(6)", x.count(6), 0);
        DUE.is("row(7)", x.row(7), 1);
    }

    private static void log() {
        NeedleToTheMissed x = Due.of("p07;p56;p03;hh00;");
        DUE.is("no row, places", x.log(0, 0), 7);
        DUE.is("no row, kinds", x.log(0, 1), 63);
        fill(x, 0, 1, 2, 3);
        DUE.is("along row 0", x.log(0, 0), 5);
        DUE.is("the row stays", x.count(6), 4);
        DUE.is("all but master and quarreller", x.log(0, 1), 1 + 2 + 8 + 32);
        x.row(4);
        DUE.is("farther on", x.log(0, 0), 1);
        fill(x, 0, 8, 16);
        DUE.is("down", x.log(0, 0), 2);
        DUE.is("no kind goes down", x.log(0, 1), 0);
        fill(x, 0, 0);
        DUE.is("stays: no place", x.log(0, 0), 0);
        DUE.is("stays: master, quarreller", x.log(0, 1), 4 + 16);
        fill(x, 1, 2);
        DUE.is("wrong from the first on", x.log(0, 0), 0);
        fill(x, 0, 99);
        DUE.is("no cell", x.log(0, 0), 0);
        DUE.is("he misses what he did", x.hand(0, 2), 0);
        DUE.is("his kind is what it was", x.hand(0, 0), 0);
        DUE.is("log(1, 2)", x.log(1, 2), -1);
        DUE.is("log(-1, 0)", x.log(-1, 0), -1);
        DUE.is("log(0, 2)", x.log(0, 2), -2);
        DUE.is("log(0, -1)", x.log(0, -1), -2);
        // His own FIGURE counts: as a whaler with 6 he pulls 3 against 2, with 2 only 1.
        x = Due.of("p07;p56;hb01;hh60;");
        fill(x, 0, 1);
        DUE.is("a boy, a whaler with 6", x.log(1, 1), 2 + 8);
        x.turn(1, 0, 2);
        DUE.is("a boy, no whaler with 2", x.log(1, 1), 2);
    }

    private static void judge() {
        NeedleToTheMissed x = Due.of("p02;hh00;");
        DUE.is("no row", x.judge(), -9);
        fill(x, 1, 1, 9, 9);
        DUE.is("all is so", x.judge(), -9);
        DUE.is("the row has none", x.count(6), 0);
        fill(x, 1, 1, 1, 9);
        DUE.is("it spins there", x.judge(), 2);
        DUE.is("the row has none", x.count(6), 0);
        fill(x, 1, 9);
        DUE.is("it does not spin there", x.judge(), 1);
        fill(x, 0, 1);
        DUE.is("the first", x.judge(), 0);
        DUE.is("the ship is where it was", x.count(3), 0);
        x = Due.of("p08;p15;hh00;hh01;s15;");
        fill(x, 3, 9);
        DUE.is("3", x.judge(), -9);
    }
}
