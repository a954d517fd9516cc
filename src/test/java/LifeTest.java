import java.lang.reflect.Method;
import java.lang.reflect.Modifier;
import java.util.Arrays;

/** "An object is used for at most 512 calls after it has been made": all of them answer as the first does. */
public final class LifeTest {
    private static final int CALLS = 512;
    private static final Due DUE = new Due();

    /** Each call with an answer that it gives again and again, from Seas.full() on. */
    private static final String[] SAME = {
        "sea()", "hand(6, 3)", "place(5)", "leans(5)", "sails(27)", "misses(0, 0)", "turn(0, 0, 0)", "needle()",
        "shipThen(60)", "needleThen(60)", "seaThen(6, 60)", "comes(5)", "door(0)", "door(1)", "door(2)", "crew(1, 30)",
        "ashore(1)", "letters(1, 30)", "turners()", "pull(0)", "strongest()", "missed(1)", "opposed()", "sign(1, 1)",
        "home(3)", "nearest()", "way(60)", "two(0, 1, 30)", "storm(5, 7, 20, 1)", "mean(0)", "log(0, 1)", "judge()",
        "clear()", "lots(20, 77, 1)", "image()", "on()", "count(4)",
    };

    public static void main(String[] args) {
        for (String call : SAME) {
            sameToTheEnd(call);
        }
        refusedToTheEnd();
        sidesToTheEnd();
        everyCallIsThere();
        DUE.end();
    }

    private static void sameToTheEnd(String call) {
        NeedleToTheMissed x = Seas.full();
        Calls.call(x, call);
        long due = Calls.call(x, call);
        for (int made = 3; made < CALLS; made++) {
            DUE.is(call + ", the " + made + "th", Calls.call(x, call), due);
        }
    }

    private static void refusedToTheEnd() {
        NeedleToTheMissed x = new NeedleToTheMissed();
        for (int made = 1; made < CALLS; made++) {
            DUE.is("place(0), the " + made + "th", x.place(0), -1);
        }
        DUE.is("count(11), the " + CALLS + "th", x.count(11), CALLS - 1);
    }

    /** boards() is the one that answers by turns; letters, days, rows and drops come to their ends. */
    private static void sidesToTheEnd() {
        NeedleToTheMissed x = Due.of("p07;hh00;d60;");
        // 13 letters and sea() were the first 14.
        int aboard = 1;
        for (int made = 15; made <= CALLS; made++) {
            aboard = 1 - aboard;
            DUE.is("boards(0), the " + made + "th", x.boards(0), aboard);
        }
        x = Due.of("p07;hh00;d60;");
        for (int due = 30; due > 0; due /= 2) {
            DUE.is("drops(0)", x.drops(0), due);
        }
        x = new NeedleToTheMissed();
        for (int made = 1; made <= CALLS; made++) {
            int want = made <= 96 ? made : made <= 112 ? made - 96 : made <= 128 ? 0 : -6;
            int got = made <= 96 ? x.letter(59) : made <= 112 ? x.row(0) : made <= 128 ? x.days(60)
                : made % 3 == 0 ? x.letter(59) : made % 3 == 1 ? x.row(0) : x.days(40);
            DUE.is("the " + made + "th of letters, rows, days", got, want);
        }
    }

    private static void everyCallIsThere() {
        String others = "letter row days drops boards";
        for (Method method : NeedleToTheMissed.class.getDeclaredMethods()) {
            String name = method.getName();
            DUE.holds(name + " is called to the end", !Modifier.isPublic(method.getModifiers())
                || Arrays.stream(SAME).anyMatch(call -> call.startsWith(name + "("))
                || Arrays.asList(others.split(" ")).contains(name));
        }
    }
}
