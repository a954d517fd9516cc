/** Counts the answers of one test that are not as due, and tells them. */
final class Due {
    private int wrong;
    private int asked;
    private String words = "";

    /** From here on the class is held to these words of the document's Terms. */
    void terms(String words) {
        this.words = " - Terms: " + words;
    }

    /** From here on the class is held to these words of a promise. */
    void promise(int number, String words) {
        this.words = " - Promise " + number + ": " + words;
    }

    void is(String call, long got, long want) {
        asked++;
        if (got != want) {
            wrong++;
            System.out.println(call + " answered " + got + ", due is " + want + words);
        }
    }

    void holds(String what, boolean so) {
        asked++;
        if (!so) {
            wrong++;
            System.out.println(what + " does not hold" + words);
        }
    }

    /** Calls by their words, each with its due answer behind it: "days(60) 7". */
    void are(NeedleToTheMissed x, String... callsWithAnswers) {
        for (String told : callsWithAnswers) {
            int gap = told.lastIndexOf(' ');
            String call = told.substring(0, gap);
            is(call, Calls.call(x, call), Long.parseLong(told.substring(gap + 1)));
        }
    }

    /** A text told to a new object, and what sea() is due to answer. */
    void told(String text, int want) {
        is("sea() of " + text, tell(new NeedleToTheMissed(), text), want);
    }

    /** Ends the test: with exit code 1 if an answer was wrong. */
    void end() {
        System.out.println(asked + " looked at, " + wrong + " wrong");
        if (wrong != 0) {
            System.exit(1);
        }
    }

    /** Sends the letters of a text and answers what sea() does. */
    static int tell(NeedleToTheMissed x, String text) {
        for (int i = 0; i < text.length(); i++) {
            x.letter(text.charAt(i));
        }
        return x.sea();
    }

    /** A new object of which a text has been told. */
    static NeedleToTheMissed of(String text) {
        NeedleToTheMissed x = new NeedleToTheMissed();
        int answer = tell(x, text);
        if (answer < 1) {
            System.out.println("the text " + text + " answered " + answer);
            System.exit(1);
        }
        return x;
    }
}
