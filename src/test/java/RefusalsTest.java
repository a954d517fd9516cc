/** REFUSALS: each at the numbers next to what fits, in their order; nothing changes but how many there were. */
public final class RefusalsTest {
    private static final Due DUE = new Due();
    private static final long SIGNED = 1000000000L;
    private static final long LONG = 4000000000000000000L;

    /** Of a new object: there are no HANDS, PLACES, image. */
    private static final String[] OF_NOTHING = {
        "hand(0, 0) -1", "place(0) -1", "leans(0) 1000000001", "drops(0) -1", "boards(0) -1", "misses(0, 0) -1",
        "turn(0, 0, 0) -1", "seaThen(0, 0) -1", "comes(0) -1", "crew(0, 0) -1", "ashore(0) -1", "letters(0, 0) -1",
        "sign(0, 0) -1", "home(0) -1", "two(0, 1, 0) -1", "storm(0, 0, 2, 0) 4000000000000000001", "log(0, 0) -1",
        "on() -3", "letter(-1) -4", "letter(256) -6", "row(-1) -4", "row(100) -6",
    };

    /** Of a sea with one HAND and one PLACE: those next to them are nobody. */
    private static final String[] OF_ONE = {
        "hand(1, 0) -1", "place(1) -1", "leans(1) 1000000001", "drops(1) -1", "boards(1) -1", "misses(1, 0) -1",
        "misses(0, 1) -1", "misses(1, 1) -1", "turn(1, 0, 0) -1", "seaThen(1, 0) -1", "comes(1) -1", "crew(1, 0) -1",
        "ashore(1) -1", "letters(1, 0) -1", "sign(1, 0) -1", "home(1) -1", "two(0, 1, 0) -1", "two(1, 0, 0) -1",
        "two(0, 0, 0) -1", "storm(1, 0, 2, 0) 4000000000000000001", "log(1, 0) -1",
    };

    /** Of a full sea, promise by promise. */
    private static final String[] OF_A_FULL_SEA = {
        // 2: below goes ahead of above and of the room.
        "letter(-1) -4", "letter(least) -4", "letter(256) -6", "letter(greatest) -6", "letter(0) -6", "letter(255) -6",
        // 4 to 6
        "hand(-1, 0) -1", "hand(7, 0) -1", "hand(least, 0) -1", "hand(greatest, 0) -1", "hand(7, 5) -1",
        "hand(-1, -1) -1", "hand(0, -1) -2", "hand(6, 5) -2", "hand(0, least) -2", "hand(0, greatest) -2",
        "place(-1) -1", "place(6) -1", "place(least) -1", "place(greatest) -1",
        "leans(-1) 1000000001", "leans(7) 1000000001", "leans(least) 1000000001", "leans(greatest) 1000000001",
        // 7 to 11
        "drops(-1) -1", "drops(7) -1", "drops(least) -1", "drops(greatest) -1",
        "boards(-1) -1", "boards(7) -1", "boards(least) -1", "boards(greatest) -1",
        "sails(-1) -1", "sails(64) -1", "sails(least) -1", "sails(greatest) -1",
        "misses(-1, 0) -1", "misses(7, 0) -1", "misses(0, -1) -1", "misses(0, 6) -1", "misses(7, 6) -1",
        "misses(least, 0) -1", "misses(0, greatest) -1",
        "turn(-1, 0, 0) -1", "turn(7, 0, 0) -1", "turn(0, -1, 0) -2", "turn(0, 6, 0) -2", "turn(0, 0, -1) -4",
        "turn(0, 0, 10) -6", "turn(7, 6, 10) -1", "turn(-1, -1, -1) -1", "turn(6, 6, 10) -2", "turn(0, -1, -1) -2",
        "turn(0, least, 0) -2", "turn(0, greatest, 0) -2", "turn(0, 0, least) -4", "turn(0, 0, greatest) -6",
        // 12: DAY is 999.
        "days(0) -4", "days(-1) -4", "days(least) -4", "days(1) -6", "days(60) -6", "days(61) -6", "days(greatest) -6",
        // 14 to 18
        "shipThen(-1) -4", "shipThen(61) -6", "shipThen(least) -4", "shipThen(greatest) -6",
        "needleThen(-1) -4", "needleThen(61) -6", "needleThen(least) -4", "needleThen(greatest) -6",
        "seaThen(-1, 0) -1", "seaThen(7, 0) -1", "seaThen(0, -1) -4", "seaThen(6, 61) -6", "seaThen(7, -1) -1",
        "seaThen(-1, 61) -1", "seaThen(0, least) -4", "seaThen(0, greatest) -6",
        "comes(-1) -1", "comes(6) -1", "comes(least) -1", "comes(greatest) -1",
        "door(-1) -2", "door(3) -2", "door(least) -2", "door(greatest) -2",
        // 19 to 21
        "crew(-1, 0) -1", "crew(6, 0) -1", "crew(0, -1) -4", "crew(5, 31) -6", "crew(6, 31) -1", "crew(6, -1) -1",
        "crew(0, least) -4", "crew(0, greatest) -6",
        "ashore(-1) -1", "ashore(6) -1", "ashore(least) -1", "ashore(greatest) -1",
        "letters(-1, 0) -1", "letters(6, 0) -1", "letters(0, -1) -4", "letters(5, 31) -6", "letters(6, 31) -1",
        "letters(6, -1) -1", "letters(0, least) -4", "letters(0, greatest) -6",
        // 23, 25, 27, 28, 30: seven HANDS there are, but what is asked is refused ahead of that.
        "pull(-1) 1000000002", "pull(2) 1000000002", "pull(least) 1000000002", "pull(greatest) 1000000002",
        "missed(-1) 1000000002", "missed(2) 1000000002", "missed(least) 1000000002", "missed(greatest) 1000000002",
        "sign(-1, 0) -1", "sign(6, 0) -1", "sign(0, -1) -2", "sign(5, 2) -2", "sign(6, 2) -1", "sign(0, greatest) -2",
        "home(-1) -1", "home(7) -1", "home(least) -1", "home(greatest) -1",
        "way(0) -4", "way(-1) -4", "way(61) -6", "way(least) -4", "way(greatest) -6",
        // 31: one twice is nobody, ahead of n.
        "two(-1, 0, 0) -1", "two(7, 0, 0) -1", "two(0, -1, 0) -1", "two(0, 7, 0) -1", "two(6, 6, 0) -1",
        "two(0, 0, -1) -1", "two(6, 6, 31) -1", "two(7, 7, 31) -1", "two(7, 0, -1) -1", "two(0, 7, -1) -1",
        "two(0, 6, -1) -4", "two(6, 0, 31) -6", "two(0, 1, least) -4", "two(0, 1, greatest) -6",
        // 32: -1, then either below, then either above, then the part.
        "storm(-1, 0, 2, 0) 4000000000000000001", "storm(6, -1, 1, 2) 4000000000000000001",
        "storm(6, 8, 21, 0) 4000000000000000001", "storm(0, -1, 2, 0) 4000000000000000004",
        "storm(0, 0, 1, 0) 4000000000000000004", "storm(0, -1, 21, 2) 4000000000000000004",
        "storm(0, 8, 1, 2) 4000000000000000004", "storm(0, 8, 2, 0) 4000000000000000006",
        "storm(0, 0, 21, 0) 4000000000000000006", "storm(0, 8, 20, 2) 4000000000000000006",
        "storm(0, 7, 21, -1) 4000000000000000006", "storm(5, 7, 20, 2) 4000000000000000002",
        "storm(5, 7, 20, -1) 4000000000000000002", "storm(0, least, 2, 0) 4000000000000000004",
        "storm(0, greatest, 2, 0) 4000000000000000006", "storm(0, 0, least, 0) 4000000000000000004",
        "storm(0, 0, greatest, 0) 4000000000000000006", "storm(0, 0, 0, 0) 4000000000000000004",
        // 33 to 35
        "mean(-1) 4000000000000000002", "mean(2) 4000000000000000002", "mean(least) 4000000000000000002",
        "mean(greatest) 4000000000000000002",
        "log(-1, 0) -1", "log(7, 0) -1", "log(0, -1) -2", "log(6, 2) -2", "log(7, 2) -1", "log(-1, -1) -1",
        "log(0, least) -2", "log(0, greatest) -2",
        "row(-1) -4", "row(least) -4", "row(100) -6", "row(greatest) -6", "row(0) -6", "row(99) -6",
        // 38
        "lots(0, 0, 0) -4", "lots(-1, 0, 2) -4", "lots(21, 0, 0) -6", "lots(21, 0, -1) -6", "lots(1, 0, -1) -2",
        "lots(20, 0, 2) -2", "lots(least, 0, 0) -4", "lots(greatest, 0, 0) -6", "lots(1, 0, least) -2",
        "lots(1, 0, greatest) -2",
    };

    public static void main(String[] args) {
        DUE.terms("REFUSALS (the call answers the number, the first that fits in the order in which it tells them;"
            + " nothing changes but how many there were):");
        for (String told : OF_NOTHING) {
            refused(new NeedleToTheMissed(), new NeedleToTheMissed(), told);
        }
        for (String told : OF_ONE) {
            refused(Due.of("p09;hh00;d03;"), Due.of("p09;hh00;d03;"), told);
        }
        for (String told : OF_A_FULL_SEA) {
            refused(Seas.full(), Seas.full(), told);
        }
        theKinds();
        moreThanOne();
        noRefusals();
        DUE.end();
    }

    private static void refused(NeedleToTheMissed x, NeedleToTheMissed twin, String told) {
        int gap = told.lastIndexOf(' ');
        String call = told.substring(0, gap);
        long want = Long.parseLong(told.substring(gap + 1));
        DUE.is(call, Calls.call(x, call), want);
        for (int kind = 1; kind <= 6; kind++) {
            boolean counted = want == -kind || want == SIGNED + kind || want == LONG + kind;
            DUE.is("count(" + (10 + kind) + ") behind " + call, x.count(10 + kind), counted ? 1 : 0);
        }
        DUE.holds(call + " changes nothing", Seas.seen(x).equals(Seas.seen(twin)));
    }

    private static void theKinds() {
        NeedleToTheMissed x = Seas.full();
        DUE.terms("-1 NOBODY: no such CELL, PLACE, HAND, one twice.");
        DUE.are(x, "sails(64) -1", "place(6) -1", "home(7) -1", "two(3, 3, 0) -1", "count(11) 4");
        DUE.terms("-2 OTHER: what, KIND.");
        DUE.are(x, "hand(0, 5) -2", "turn(0, 6, 0) -2", "count(12) 2");
        DUE.terms("-3 STATE: it is not as it must be.");
        DUE.are(new NeedleToTheMissed(), "on() -3", "on() -3", "count(13) 2");
        DUE.terms("-4 BELOW: a number below the least.");
        DUE.are(x, "way(0) -4", "shipThen(-1) -4", "count(14) 2");
        DUE.terms("-6 ROOM: a number above the greatest, no room.");
        DUE.are(x, "way(61) -6", "letter(0) -6", "row(0) -6", "days(1) -6", "count(16) 4", "count(15) 0");
        DUE.terms("Of leans(), pull(), missed() REFUSALS are 1000000000 less them (-1 is told as 1000000001),");
        DUE.are(x, "leans(7) 1000000001", "pull(2) 1000000002", "missed(2) 1000000002", "count(11) 5", "count(12) 4");
        DUE.terms("of longs 4000000000000000000 less them (-1 as 4000000000000000001).");
        DUE.are(x, "storm(6, 0, 2, 0) 4000000000000000001", "storm(0, 0, 1, 0) 4000000000000000004",
            "storm(0, 8, 2, 0) 4000000000000000006", "mean(2) 4000000000000000002",
            "count(11) 6", "count(12) 5", "count(14) 3", "count(16) 5");
    }

    private static void moreThanOne() {
        DUE.terms("nothing changes but how many there were");
        NeedleToTheMissed x = new NeedleToTheMissed();
        for (int i = 1; i <= 200; i++) {
            x.place(i);
            DUE.is("count(11) behind " + i, x.count(11), i);
        }
    }

    /** -9 and FAULTS are answers, not REFUSALS. */
    private static void noRefusals() {
        DUE.promise(3, "the FAULT (nothing is counted).");
        NeedleToTheMissed x = new NeedleToTheMissed();
        DUE.are(x, "sea() -1000", "letter(0) 1", "sea() -1000", "needle() -9", "door(0) -9", "strongest() -9",
            "missed(0) -9", "nearest() -9", "needleThen(60) -9", "judge() -9", "count(8) -9", "count(-1) -9",
            "count(17) -9");
        Due.tell(x, "p63;hq00;s27;");
        DUE.are(x, "comes(0) -9", "crew(0, 30) -9", "ashore(0) -9", "letters(0, 30) -9", "sign(0, 0) 1",
            "door(1) -9", "place(0) 63");
        Due.tell(x, "p64;");
        for (int what = 11; what <= 16; what++) {
            DUE.is("count(" + what + ")", x.count(what), 0);
        }
    }
}
