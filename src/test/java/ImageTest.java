/** Promises 39 to 41: image, on, count. */
public final class ImageTest {
    private static final Due DUE = new Due();

    public static void main(String[] args) {
        imageAndOn();
        counts();
        DUE.end();
    }

    private static void imageAndOn() {
        NeedleToTheMissed x = new NeedleToTheMissed();
        DUE.is("on() of none", x.on(), -3);
        DUE.is("count(13)", x.count(13), 1);
        Due.tell(x, "p07;hw60;hh00;a1;d05;");
        DUE.is("image()", x.image(), 5);
        x.row(3);
        x.letter('p');
        Due.tell(x, "00;p01;hb01;a1;a0;l0;m01;d09;");
        x.turn(0, 5, 1);
        x.sails(33);
        x.letter('p');
        x.row(4);
        x.place(9);
        DUE.is("on()", x.on(), 5);
        allAsThen(x);
        DUE.is("the row is not as then", x.count(6), 2);
        DUE.is("letters are not as then", x.count(7), 1);
        DUE.is("refusals are not as then", x.count(11), 1);
        DUE.is("refusals are not as then", x.count(13), 1);
        x.days(4);
        DUE.is("on() again", x.on(), 5);
        allAsThen(x);
        x.days(1);
        DUE.is("image() anew", x.image(), 6);
        x.days(8);
        DUE.is("on() from the new one", x.on(), 6);
        DUE.is("ship", x.count(3), 6);
    }

    private static void allAsThen(NeedleToTheMissed x) {
        int[] wants = {1, 2, 5, 5, 1, 5};
        for (int what = 0; what < wants.length; what++) {
            DUE.is("count(" + what + ") as then", x.count(what), wants[what]);
        }
        DUE.is("place as then", x.place(0), 7);
        int[] first = {3, 6, 0, 5, 1};
        int[] second = {0, 0, 0, 0, 0};
        for (int what = 0; what < first.length; what++) {
            DUE.is("hand(0, " + what + ") as then", x.hand(0, what), first[what]);
            DUE.is("hand(1, " + what + ") as then", x.hand(1, what), second[what]);
        }
    }

    private static void counts() {
        NeedleToTheMissed x = Due.of("p07;p08;hw60;d03;hh00;hm01;a1;d02;");
        x.row(1);
        x.letter('p');
        x.letter('0');
        int[] wants = {2, 3, 5, 5, 5, 7, 1, 2, -9, -9, -9, 0, 0, 0, 0, 0, 0, -9};
        for (int what = 0; what < wants.length; what++) {
            DUE.is("count(" + what + ")", x.count(what), wants[what]);
        }
        DUE.is("count(-1)", x.count(-1), -9);
        DUE.is("count(greatest)", x.count(Integer.MAX_VALUE), -9);
        DUE.is("count(least)", x.count(Integer.MIN_VALUE), -9);
        x.place(2);
        x.door(3);
        x.door(3);
        x.on();
        x.row(-1);
        x.row(100);
        x.row(100);
        x.row(100);
        int[] refused = {1, 2, 1, 1, 0, 3};
        for (int i = 0; i < refused.length; i++) {
            DUE.is("count(" + (11 + i) + ") then", x.count(11 + i), refused[i]);
        }
    }
}
