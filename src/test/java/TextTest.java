/** Promises 1 to 3: a new object, letter, sea. */
public final class TextTest {
    private static final Due DUE = new Due();

    public static void main(String[] args) {
        newObject();
        letters();
        statements();
        faultsOfForm();
        faultsOfSense();
        aFaultChangesNothing();
        DUE.end();
    }

    private static void newObject() {
        NeedleToTheMissed x = new NeedleToTheMissed();
        for (int what = 0; what <= 7; what++) {
            DUE.is("new count(" + what + ")", x.count(what), 0);
        }
        for (int what = 11; what <= 16; what++) {
            DUE.is("new count(" + what + ")", x.count(what), 0);
        }
        DUE.is("new place(0)", x.place(0), -1);
        DUE.is("new hand(0, 0)", x.hand(0, 0), -1);
        DUE.is("new on()", x.on(), -3);
    }

    private static void letters() {
        NeedleToTheMissed x = new NeedleToTheMissed();
        DUE.is("letter(-1)", x.letter(-1), -4);
        DUE.is("letter(256)", x.letter(256), -6);
        DUE.is("letter(0)", x.letter(0), 1);
        DUE.is("letter(255)", x.letter(255), 2);
        for (int i = 3; i <= 96; i++) {
            DUE.is("letter " + i, x.letter('p'), i);
        }
        DUE.is("letter 97", x.letter('p'), -6);
        DUE.is("letter 97 below", x.letter(-5), -4);
        DUE.is("count(7)", x.count(7), 96);
        DUE.is("count(14)", x.count(14), 2);
        DUE.is("count(16)", x.count(16), 2);
        DUE.is("sea() of 96", x.sea(), -1000);
        DUE.is("count(7) then", x.count(7), 0);
        DUE.is("letter after sea", x.letter('p'), 1);
    }

    private static void statements() {
        NeedleToTheMissed x = new NeedleToTheMissed();
        DUE.is("sea", Due.tell(x, "p63;p07;hh90;hb01;hm20;hw91;hq41;hd71;s20;"), 9);
        DUE.is("place(0)", x.place(0), 63);
        DUE.is("place(1)", x.place(1), 7);
        for (int kind = 0; kind < 6; kind++) {
            DUE.is("kind " + kind, x.hand(kind, 0), kind);
            DUE.is("sea " + kind, x.hand(kind, 3), 0);
            DUE.is("aboard " + kind, x.hand(kind, 4), 1);
        }
        DUE.is("figure 0", x.hand(0, 1), 9);
        DUE.is("misses 1", x.hand(1, 2), 1);
        DUE.is("ship", x.count(3), 20);
        DUE.is("day", x.count(2), 0);
        // Ashore, then 9 days: his SEA stays 0, the others' becomes 9.
        DUE.is("sea a, d", Due.tell(x, "a3;d09;"), 2);
        DUE.is("day", x.count(2), 9);
        DUE.is("ashore SEA", x.hand(3, 3), 0);
        DUE.is("aboard SEA", x.hand(0, 3), 9);
        DUE.is("ashore", x.hand(3, 4), 0);
        DUE.is("sea l, m, a", Due.tell(x, "l0;m01;a3;"), 3);
        DUE.is("half of 9, cut", x.hand(0, 3), 4);
        DUE.is("misses", x.hand(0, 2), 1);
        DUE.is("aboard again", x.hand(3, 4), 1);
        DUE.is("m to place 0", Due.tell(x, "m00;"), 1);
        DUE.is("misses 0", x.hand(0, 2), 0);
        DUE.is("twice told", Due.tell(x, "a3;a3;"), 2);
        DUE.is("aboard still", x.hand(3, 4), 1);
    }

    private static void faultsOfForm() {
        String[] texts = {"", "x", "P", "p", "p0", "p00", "p00;p", "p00;;", "p0;", "pa", "p00:", "p000;",
            "hx", "hh", "hh0", "hh0;", "hh00", "hh000", "s1;", "sx", "l", "lx", "l0", "l00", "a;", "m0;", "m00", "d1;",
            "d1x", "h0", "p64;x", ";"};
        int[] places = {0, 0, 0, 1, 2, 3, 5, 4, 2, 1, 3, 3,
            1, 2, 3, 3, 4, 4, 2, 1, 1, 1, 2, 2, 1, 2, 3, 2,
            2, 1, 4, 0};
        NeedleToTheMissed x = new NeedleToTheMissed();
        for (int i = 0; i < texts.length; i++) {
            DUE.is("form of " + texts[i], Due.tell(x, texts[i]), -1000 - places[i]);
            DUE.is("letters behind " + texts[i], x.count(7), 0);
        }
        for (int what = 11; what <= 16; what++) {
            DUE.is("faults are not counted", x.count(what), 0);
        }
        String full = "p00;".repeat(23) + "p00p";
        DUE.is("form at 95", Due.tell(x, full), -1095);
        DUE.is("the end of 96", Due.tell(x, "p00;".repeat(23) + "hh00"), -1096);
    }

    private static void faultsOfSense() {
        String[] texts = {"p64;", "p99;", "p00;s64;", "hh00;", "p00;hh01;", "p00;hh09;", "l0;", "a0;", "m00;",
            "p00;hh00;l1;", "p00;hh00;a7;", "p00;hh00;m01;", "p00;hh00;m10;", "d00;", "d61;", "d99;",
            "p00;p01;p02;p03;p04;p05;p06;",
            "p00;hh00;hh00;hh00;hh00;hh00;hh00;hh00;hh00;",
            "d60;d60;d60;d60;d60;d60;d60;d60;d60;d60;d60;d60;d60;d60;d60;d60;d40;"};
        int[] places = {0, 0, 4, 0, 4, 4, 0, 0, 0, 9, 9, 9, 9, 0, 0, 0, 24, 39, 64};
        for (int i = 0; i < texts.length; i++) {
            DUE.is("sense of " + texts[i], Due.tell(new NeedleToTheMissed(), texts[i]), -2000 - places[i]);
        }
        NeedleToTheMissed x = Due.of("d60;d60;d60;d60;d60;d60;d60;d60;d60;d60;d60;d60;d60;d60;d60;d60;d39;");
        DUE.is("day 999", x.count(2), 999);
        DUE.is("a day more", Due.tell(x, "p00;d01;"), -2004);
        DUE.is("no place came", x.count(0), 0);
    }

    private static void aFaultChangesNothing() {
        NeedleToTheMissed x = Due.of("p09;hh00;s12;d02;");
        DUE.is("fault", Due.tell(x, "p10;hb31;s00;l0;a0;m01;d05;d61;"), -2027);
        DUE.is("places", x.count(0), 1);
        DUE.is("hands", x.count(1), 1);
        DUE.is("day", x.count(2), 2);
        DUE.is("ship", x.count(3), 10);
        DUE.is("aboard", x.count(4), 1);
        DUE.is("sea", x.count(5), 2);
        DUE.is("misses", x.hand(0, 2), 0);
    }
}
