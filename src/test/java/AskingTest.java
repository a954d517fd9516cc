import java.util.function.Supplier;

/** What is only asked changes nothing, nor what is asked next. */
public final class AskingTest {
    private static final Due DUE = new Due();

    private static final String[] ASKED = {
        "hand(3, 3)", "place(1)", "leans(1)", "needle()", "shipThen(0)", "shipThen(60)", "needleThen(0)",
        "needleThen(60)", "seaThen(0, 60)", "seaThen(1, 60)", "comes(0)", "comes(1)", "door(0)", "door(1)", "door(2)",
        "crew(0, 30)", "crew(1, 30)", "crew(1, 0)", "ashore(0)", "ashore(1)", "letters(0, 30)", "letters(1, 30)",
        "turners()", "pull(0)", "pull(1)", "strongest()", "missed(0)", "missed(1)", "opposed()", "sign(0, 0)",
        "sign(1, 1)", "home(1)", "nearest()", "way(1)", "way(60)", "two(0, 1, 30)", "two(3, 2, 7)",
        "storm(0, 7, 20, 0)", "storm(1, 5, 2, 1)", "storm(1, 0, 2, 0)", "mean(0)", "mean(1)", "log(0, 0)", "log(0, 1)",
        "log(3, 0)", "log(3, 1)", "lots(20, 5, 0)", "lots(20, 5, 1)", "lots(1, -5, 1)", "count(4)", "count(5)",
    };

    public static void main(String[] args) {
        DUE.terms("In mind, n DAYS on (0 .. 60):");
        nothingChanges(Seas::some);
        nothingChanges(Seas::full);
        neitherWhatIsAskedNext(Seas::some);
        neitherWhatIsAskedNext(Seas::full);
        twoObjects();
        DUE.end();
    }

    private static void nothingChanges(Supplier<NeedleToTheMissed> sea) {
        String due = Seas.seen(sea.get());
        for (String call : ASKED) {
            NeedleToTheMissed x = sea.get();
            long first = Calls.call(x, call);
            DUE.is(call + " again", Calls.call(x, call), first);
            DUE.is("REFUSALS behind " + call, refusals(x), 0);
            DUE.holds(call + " changes nothing", Seas.seen(x).equals(due));
        }
    }

    private static void neitherWhatIsAskedNext(Supplier<NeedleToTheMissed> sea) {
        long[] due = new long[ASKED.length];
        for (int i = 0; i < due.length; i++) {
            due[i] = Calls.call(sea.get(), ASKED[i]);
        }
        for (String ahead : ASKED) {
            NeedleToTheMissed x = sea.get();
            for (int i = 0; i < due.length; i++) {
                Calls.call(x, ahead);
                DUE.is(ASKED[i] + " behind " + ahead, Calls.call(x, ASKED[i]), due[i]);
            }
        }
    }

    private static int refusals(NeedleToTheMissed x) {
        int all = 0;
        for (int what = 11; what <= 16; what++) {
            all += x.count(what);
        }
        return all;
    }

    private static void twoObjects() {
        DUE.promise(1, "No PLACES, no HANDS, CELL 0.");
        NeedleToTheMissed x = new NeedleToTheMissed();
        NeedleToTheMissed other = Seas.full();
        String due = Seas.seen(Seas.full());
        x.sails(9);
        x.place(0);
        DUE.holds("another object's changes are its own", Seas.seen(other).equals(due));
        DUE.is("the other's REFUSALS", refusals(other), 0);
        DUE.are(x, "count(0) 0", "count(1) 0", "count(2) 0", "count(3) 9", "count(6) 0", "count(7) 0", "on() -3");
    }
}
