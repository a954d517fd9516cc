/** Promises 19 to 21, 27 and 31: crew, ashore, letters, sign, two. */
public final class ChoicesTest {
    private static final Due DUE = new Due();

    public static void main(String[] args) {
        crew();
        ashore();
        letters();
        sign();
        two();
        wrongNumbers();
        DUE.end();
    }

    private static void crew() {
        // Alone, 0 goes along row 0, 1 and 2 along column 0; 0 with 1 end at 14, seven, left, down.
        NeedleToTheMissed x = Due.of("p07;p56;p14;hh00;hh01;hh01;");
        DUE.is("crew(0, 7)", x.crew(0, 7), 1);
        DUE.is("crew(0, 6)", x.crew(0, 6), -9);
        DUE.is("of several the least", x.crew(1, 7), 2);
        x.boards(0);
        x.boards(1);
        DUE.is("those ashore, too", x.crew(1, 7), 2);
        DUE.is("those ashore, too", x.crew(0, 30), 1);
        x.sails(14);
        DUE.is("nobody is needed", x.crew(2, 0), 0);
        DUE.is("who is aboard", x.count(4), 4);
        x = Due.of("p07;p56;p09;hh00;hh01;");
        DUE.is("both are needed", x.crew(2, 2), 3);
        DUE.is("a day less", x.crew(2, 1), -9);
        x = Due.of("p11;p05;p16;hd01;hd21;hb42;s43;");
        DUE.is("three are needed", x.crew(0, 30), 7);
        DUE.is("one is needed", x.crew(1, 30), 1);
    }

    private static void ashore() {
        // A boy to row 0's end against two to column 0's: one of these must go.
        NeedleToTheMissed x = Due.of("p07;p56;hb00;hh01;hh01;");
        DUE.is("comes(0)", x.comes(0), -9);
        DUE.is("of several the least", x.ashore(0), 1);
        x.boards(1);
        DUE.is("comes(0) now", x.comes(0), 7);
        DUE.is("not sooner than else", x.ashore(0), -9);
        DUE.is("the boy is in the way", x.ashore(1), 0);
        DUE.is("who is aboard", x.count(4), 5);
        DUE.is("nobody", Due.of("p07;").ashore(0), -9);
        x = Due.of("p03;hh00;hm00;");
        DUE.is("nobody makes it sooner", x.ashore(0), -9);
        // SEA 0: with all aboard it goes only from day 60 on; each quarreller less is sooner.
        x = Due.of("p01;hb00;hb00;hh00;hq90;hq90;hq90;hq90;");
        DUE.is("sooner than never", x.ashore(0), 3);
        x.days(1);
        DUE.is("sooner than 60", x.ashore(0), 3);
    }

    private static void letters() {
        // SEA 8 pulls 2 down, SEA 0 pulls 1 along: with 8 halved it is 1 and 1, and along.
        NeedleToTheMissed x = Due.of("p07;p56;p01;p08;hh01;d08;s00;hh00;");
        DUE.is("letters(2, 0)", x.letters(2, 0), -9);
        DUE.is("letters(2, 1)", x.letters(2, 1), 1);
        DUE.is("none needed", x.letters(3, 1), 0);
        DUE.is("SEA is what it was", x.count(5), 8);
        x = Due.of("p07;p56;p01;p08;hh00;hh01;d08;s00;l0;l0;l0;l0;");
        DUE.is("the second's", x.letters(2, 1), 2);
        // Two to column 0's end with SEA 8 (2 each) against SEA 0 of a boy (2): both must halve.
        x = Due.of("p07;p56;p01;hh01;hh01;d08;s00;hb00;");
        DUE.is("both", x.letters(2, 1), 3);
        x = Due.of("p07;p56;p01;hh01;hh01;d08;s00;hw60;");
        DUE.is("one of two, the least", x.letters(2, 1), 1);
    }

    private static void sign() {
        NeedleToTheMissed x = Due.of("p07;");
        DUE.is("any: the least", x.sign(0, 0), 0);
        DUE.is("when", x.sign(0, 1), 7);
        // Against a hand who pulls down, one who pulls as much gets nowhere, a boy does.
        x = Due.of("p07;p56;hh01;");
        DUE.is("a boy", x.sign(0, 0), 1);
        DUE.is("a boy's time", x.sign(0, 1), 7);
        DUE.is("hands are as many", x.count(1), 1);
        // 2 steps off a drunk pulls 4, all others 2 at most, against 3 of the whaler with 6.
        x = Due.of("p05;p00;hw61;s03;");
        DUE.is("a drunk", x.sign(0, 0), 5);
        DUE.is("a drunk's time", x.sign(0, 1), 2);
        // A whaler with 6 would pull 3 against the boy's 2; with 5 it is 2, and a drunk's 4 does it.
        x = Due.of("p05;p00;hb01;s03;");
        DUE.is("the FIGURE of him is 5", x.sign(0, 0), 5);
        x = Due.of("p02;p56;hw91;hw91;hw91;");
        DUE.is("none", x.sign(0, 0), -9);
        DUE.is("none's time", x.sign(0, 1), -9);
        DUE.is("there already", Due.of("p00;").sign(0, 1), 0);
        x = Due.of("p07;hh00;hh00;hh00;hh00;hh00;hh00;");
        DUE.is("six there are", x.sign(0, 0), 0);
        Due.tell(x, "hh00;");
        DUE.is("seven there are", x.sign(0, 0), -9);
        DUE.is("seven there are", x.sign(0, 1), -9);
        x = Due.of("p33;hq90;d36;s15;");
        DUE.is("at 60", x.sign(0, 1), 60);
    }

    private static void two() {
        // The quarreller pulls 2 away and, halved, 1; the hand 2 there and, halved, 1.
        NeedleToTheMissed x = Due.of("p31;hq00;d03;hh00;d05;s27;");
        DUE.is("the quarreller's only", x.two(0, 1, 1), 10);
        DUE.is("the other way round", x.two(1, 0, 1), 1);
        DUE.is("all alike", x.two(0, 1, 0), 0);
        DUE.is("SEA is what it was", x.count(5), 13);
        // Two quarrellers who pull 2 each against 3.
        x = Due.of("p31;hh00;d02;hq00;hq00;d08;s27;");
        DUE.is("both", x.two(1, 2, 1), 11);
        DUE.is("neither keeps any", Due.of("p58;p28;hb11;hd40;d39;s51;").two(0, 1, 2), -9);
        DUE.is("those ashore, too", Due.of("p31;hh00;hh00;a1;").two(0, 1, 30), 0);
    }

    private static void wrongNumbers() {
        NeedleToTheMissed x = Due.of("p07;hh00;hh00;");
        DUE.is("crew(1, -1)", x.crew(1, -1), -1);
        DUE.is("crew(-1, 0)", x.crew(-1, 0), -1);
        DUE.is("crew(0, -1)", x.crew(0, -1), -4);
        DUE.is("crew(0, 31)", x.crew(0, 31), -6);
        DUE.is("ashore(1)", x.ashore(1), -1);
        DUE.is("ashore(-1)", x.ashore(-1), -1);
        DUE.is("letters(1, 31)", x.letters(1, 31), -1);
        DUE.is("letters(0, -1)", x.letters(0, -1), -4);
        DUE.is("letters(0, 31)", x.letters(0, 31), -6);
        DUE.is("sign(1, 2)", x.sign(1, 2), -1);
        DUE.is("sign(0, 2)", x.sign(0, 2), -2);
        DUE.is("sign(0, -1)", x.sign(0, -1), -2);
        DUE.is("two(0, 0, 0)", x.two(0, 0, 0), -1);
        DUE.is("two(0, 2, 31)", x.two(0, 2, 31), -1);
        DUE.is("two(-1, 1, 0)", x.two(-1, 1, 0), -1);
        DUE.is("two(0, 1, -1)", x.two(0, 1, -1), -4);
        DUE.is("two(0, 1, 31)", x.two(0, 1, 31), -6);
        int[] wants = {9, 2, 0, 3, 0, 3};
        for (int i = 0; i < wants.length; i++) {
            DUE.is("count(" + (11 + i) + ")", x.count(11 + i), wants[i]);
        }
    }
}
