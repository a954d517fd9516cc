/** Seas that several tests start from, and all that can be seen of one. */
final class Seas {
    /** 6 PLACES (the corners, 27, 36) and 7 HANDS, one of each KIND and one more. */
    static final String FULL_TEXT = "p00;p07;p56;p63;p27;p36;hh00;hb01;hm02;hw93;hq94;hd05;hh95;";

    private Seas() {
    }

    /** All full: 6 PLACES, 7 HANDS, DAY 999, 16 numbers, 96 letters; an image of DAY 960. */
    static NeedleToTheMissed full() {
        NeedleToTheMissed x = Due.of(FULL_TEXT);
        x.boards(6);
        for (int i = 0; i < 16; i++) {
            x.days(60);
        }
        x.image();
        x.days(39);
        for (int i = 0; i < 15; i++) {
            x.row(Math.abs(x.needleThen(i)));
        }
        x.row(99);
        String text = "s50;".repeat(23) + "s09;";
        for (int i = 0; i < text.length(); i++) {
            x.letter(text.charAt(i));
        }
        return x;
    }

    /** Neither full nor empty, all HANDS with SEA of their own, no image. */
    static NeedleToTheMissed some() {
        NeedleToTheMissed x = Due.of("p07;p41;hh00;d03;hq71;d09;hb61;d06;hd20;d02;a1;d01;s28;");
        x.row(28);
        x.row(27);
        x.letter('d');
        x.letter('0');
        return x;
    }

    /** All that can be seen but REFUSALS, as one text; the object is used up by this. */
    static String seen(NeedleToTheMissed x) {
        StringBuilder all = new StringBuilder();
        all.append(standing(x));
        all.append(" judge ").append(x.judge());
        all.append(" sea ").append(x.sea());
        all.append(standing(x));
        all.append(" on ").append(x.on());
        return all.append(standing(x)).toString();
    }

    private static String standing(NeedleToTheMissed x) {
        StringBuilder all = new StringBuilder();
        for (int what = 0; what <= 7; what++) {
            all.append(" count").append(what).append(' ').append(x.count(what));
        }
        for (int hand = 0; hand < x.count(1); hand++) {
            for (int what = 0; what <= 4; what++) {
                all.append(" hand").append(hand).append(' ').append(x.hand(hand, what));
            }
        }
        for (int place = 0; place < x.count(0); place++) {
            all.append(" place").append(place).append(' ').append(x.place(place));
        }
        return all.append('\n').toString();
    }
}
