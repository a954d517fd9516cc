/** Counts the answers of one test that are not as due, and tells them. */
final class Due {
    private int wrong;
    private int asked;

    void is(String call, long got, long want) {
        asked++;
        if (got != want) {
            wrong++;
            System.out.println(call + " answered " + got + ", due is " + want);
        }
    }

    void holds(String what, boolean so) {
        asked++;
        if (!so) {
            wrong++;
            System.out.println(what + " does not hold");
        }
    }

    /** Ends the test: with exit code 1 if an answer was wrong. */
    void end() {
        System.out.println(asked + " looked at, " + wrong + " wrong");
        if (wrong != 0) {
            System.exit(1);
        }
    }

    /** Sends the letters of a text and answers what sea() does. */
    static int tell(NeedleToTheMissed x, String text) {
        for (int i = 0; i < text.length(); i++) {
            x.letter(text.charAt(i));
        }
        return x.sea();
    }

    /** A new object of which a text has been told. */
    static NeedleToTheMissed of(String text) {
        NeedleToTheMissed x = new NeedleToTheMissed();
        int answer = tell(x, text);
        if (answer < 1) {
            System.out.println("the text " + text + " answered " + answer);
            System.exit(1);
        }
        return x;
    }
}
