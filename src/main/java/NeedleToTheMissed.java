/**
 * A ship whose compass points to whoever is missed most. The answers and the
 * refusals of every call are those of the document's promises.
 */
public final class NeedleToTheMissed {
    private static final int NONE = -9;

    private static final int FITS = 0;
    private static final int NOBODY = -1;
    private static final int OTHER = -2;
    private static final int STATE = -3;
    private static final int BELOW = -4;
    private static final int ROOM = -6;
    private static final int REFUSAL_KINDS = 7;
    private static final int FIRST_REFUSAL_COUNT = 11;
    private static final int SIGNED_REFUSAL = 1000000000;
    private static final long LONG_REFUSAL = 4000000000000000000L;

    private static final int CELLS = 64;
    private static final int SIDE = 8;
    private static final int MOST_PLACES = 6;
    private static final int MOST_HANDS = 7;
    private static final int MOST_LETTERS = 96;
    private static final int MOST_NUMBERS = 16;
    private static final int MOST_SIGN = 255;
    private static final int MOST_NUMBER = 99;
    private static final int MOST_FIGURE = 9;
    private static final int MOST_SEA = 99;
    private static final int MOST_DAY = 999;
    private static final int MOST_DAYS = 60;
    private static final int MOST_DAYS_CHOSEN = 30;
    private static final int MOST_DAYS_OF_STORM = 7;
    private static final int LEAST_ODDS = 2;
    private static final int MOST_ODDS = 20;
    private static final int MOST_VOYAGES = 20;
    private static final int DAYS_BY_LOT = 12;
    private static final int SEA_BY_LOT = 40;
    private static final int FIGURE_SIGNED = 5;
    private static final int ALL_BUT_SIGN_BIT = 0x7fffffff;

    private static final int KINDS = 6;
    private static final String KIND_SIGNS = "hbmwqd";
    private static final int PLAIN_HAND = 0;
    private static final int BOY = 1;
    private static final int MASTER = 2;
    private static final int WHALER = 3;
    private static final int QUARRELLER = 4;
    private static final int DRUNK = 5;
    private static final int FAR_FOR_A_DRUNK = 4;

    private static final int LESSER_ROWS = 0;
    private static final int GREATER_COLUMNS = 1;
    private static final int GREATER_ROWS = 2;
    private static final int LESSER_COLUMNS = 3;
    private static final int SPIN_IN_ROW = 9;

    private static final int FAULT_OF_FORM = -1000;
    private static final int FAULT_OF_SENSE = -2000;

    private final Voyage now = new Voyage();
    // One voyage serves for everything that is only thought, so that no call makes objects.
    private final Voyage thought = new Voyage();
    private final Voyage kept = new Voyage();
    private boolean keptTaken;
    private final Text text = new Text();
    private final Storm weather = new Storm();
    private final Lot lot = new Lot();
    private final int[] numbers = new int[MOST_NUMBERS];
    private int numberCount;
    private final int[] ends = new int[4];
    private final int[] refusals = new int[REFUSAL_KINDS];

    public NeedleToTheMissed() {
    }

    // ---- the sea told in letters, and what is told of it

    public int letter(int c) {
        int refusal = firstOf(outside(c, 0, MOST_SIGN), text.size < MOST_LETTERS ? FITS : ROOM);
        if (refusal != FITS) {
            return refuse(refusal);
        }
        text.take(c);
        return text.size;
    }

    public int sea() {
        int misfit = text.firstMisfit();
        int answer = misfit == NONE ? carryOutText() : FAULT_OF_FORM - misfit;
        text.size = 0;
        return answer;
    }

    public int hand(int hand, int what) {
        int refusal = firstOf(noHand(hand), noWhat(what, 5));
        if (refusal != FITS) {
            return refuse(refusal);
        }
        switch (what) {
            case 0:
                return now.kinds[hand];
            case 1:
                return now.figures[hand];
            case 2:
                return now.longings[hand];
            case 3:
                return now.seas[hand];
            default:
                return now.isAboard(hand) ? 1 : 0;
        }
    }

    public int place(int place) {
        int refusal = noPlace(place);
        return refusal != FITS ? refuse(refusal) : now.cells[place];
    }

    public int leans(int hand) {
        int refusal = noHand(hand);
        return refusal != FITS ? refuseSigned(refusal) : now.leanNow(hand);
    }

    // ---- what changes hands and ship

    public int drops(int hand) {
        int refusal = noHand(hand);
        if (refusal != FITS) {
            return refuse(refusal);
        }
        now.dropLetter(hand);
        return now.seas[hand];
    }

    public int boards(int hand) {
        int refusal = noHand(hand);
        if (refusal != FITS) {
            return refuse(refusal);
        }
        now.changeSide(hand);
        return now.isAboard(hand) ? 1 : 0;
    }

    public int sails(int cell) {
        if (cell < 0 || cell >= CELLS) {
            return refuse(NOBODY);
        }
        int before = now.ship;
        now.ship = cell;
        return before;
    }

    public int misses(int hand, int place) {
        int refusal = firstOf(noHand(hand), noPlace(place));
        if (refusal != FITS) {
            return refuse(refusal);
        }
        int before = now.longings[hand];
        now.longings[hand] = place;
        return before;
    }

    public int turn(int hand, int kind, int figure) {
        int refusal = firstOf(noHand(hand), noWhat(kind, KINDS));
        refusal = firstOf(refusal, outside(figure, 0, MOST_FIGURE));
        if (refusal != FITS) {
            return refuse(refusal);
        }
        int before = 10 * now.kinds[hand] + now.figures[hand];
        now.kinds[hand] = kind;
        now.figures[hand] = figure;
        return before;
    }

    public int days(int n) {
        int refusal = firstOf(outside(n, 1, MOST_DAYS), now.hasTimeFor(n) ? FITS : ROOM);
        if (refusal != FITS) {
            return refuse(refusal);
        }
        now.goDays(n);
        return now.ship;
    }

    // ---- needle and ship, now and in mind

    public int needle() {
        return now.points();
    }

    public int shipThen(int n) {
        int refusal = outside(n, 0, MOST_DAYS);
        if (refusal != FITS) {
            return refuse(refusal);
        }
        think();
        thought.goDays(n);
        return thought.ship;
    }

    public int needleThen(int n) {
        int refusal = outside(n, 0, MOST_DAYS);
        if (refusal != FITS) {
            return refuse(refusal);
        }
        think();
        thought.goDays(n);
        return thought.points();
    }

    public int seaThen(int hand, int n) {
        int refusal = firstOf(noHand(hand), outside(n, 0, MOST_DAYS));
        if (refusal != FITS) {
            return refuse(refusal);
        }
        think();
        thought.goDays(n);
        return thought.seas[hand];
    }

    public int comes(int place) {
        int refusal = noPlace(place);
        if (refusal != FITS) {
            return refuse(refusal);
        }
        think();
        return thought.reaches(place, MOST_DAYS);
    }

    public int door(int what) {
        int refusal = noWhat(what, 3);
        if (refusal != FITS) {
            return refuse(refusal);
        }
        think();
        switch (what) {
            case 0:
                return thought.firstPlace(MOST_DAYS);
            case 1:
                return thought.firstSpin(MOST_DAYS);
            default:
                return thought.firstRest(MOST_DAYS);
        }
    }

    // ---- whom to take, to leave, to write to

    public int crew(int place, int n) {
        int refusal = firstOf(noPlace(place), outside(n, 0, MOST_DAYS_CHOSEN));
        if (refusal != FITS) {
            return refuse(refusal);
        }
        return fewestHands(place, n, false);
    }

    public int ashore(int place) {
        int refusal = noPlace(place);
        if (refusal != FITS) {
            return refuse(refusal);
        }
        think();
        int soonest = orLate(thought.reaches(place, MOST_DAYS));
        int who = NONE;
        for (int hand = 0; hand < now.hands; hand++) {
            think();
            thought.leaveAshore(hand);
            int when = orLate(thought.reaches(place, MOST_DAYS));
            if (when < soonest) {
                soonest = when;
                who = hand;
            }
        }
        return who;
    }

    public int letters(int place, int n) {
        int refusal = firstOf(noPlace(place), outside(n, 0, MOST_DAYS_CHOSEN));
        if (refusal != FITS) {
            return refuse(refusal);
        }
        return fewestHands(place, n, true);
    }

    public int sign(int place, int what) {
        int refusal = firstOf(noPlace(place), noWhat(what, 2));
        if (refusal != FITS) {
            return refuse(refusal);
        }
        int soonest = orLate(NONE);
        int best = NONE;
        for (int kind = 0; kind < KINDS; kind++) {
            int when = orLate(comesWithSigned(kind, place));
            if (when < soonest) {
                soonest = when;
                best = kind;
            }
        }
        if (best == NONE) {
            return NONE;
        }
        return what == 0 ? best : soonest;
    }

    // ---- who pulls, and how much

    public int turners() {
        int whole = now.points();
        int turning = 0;
        for (int hand = 0; hand < now.hands; hand++) {
            if (now.isAboard(hand)) {
                think();
                thought.leaveAshore(hand);
                if (thought.points() != whole) {
                    turning |= 1 << hand;
                }
            }
        }
        return turning;
    }

    public int pull(int what) {
        int refusal = noWhat(what, 2);
        if (refusal != FITS) {
            return refuseSigned(refusal);
        }
        now.weigh();
        return what == 0 ? now.rows : now.columns;
    }

    public int strongest() {
        int most = -1;
        int who = NONE;
        for (int hand = 0; hand < now.hands; hand++) {
            int strength = Math.abs(now.leanNow(hand));
            if (now.isAboard(hand) && strength > most) {
                most = strength;
                who = hand;
            }
        }
        return who;
    }

    public int missed(int what) {
        int refusal = noWhat(what, 2);
        if (refusal != FITS) {
            return refuseSigned(refusal);
        }
        if (now.places == 0) {
            return what == 0 ? NONE : 0;
        }
        int which = 0;
        int most = now.leansTogether(0);
        for (int place = 1; place < now.places; place++) {
            int together = now.leansTogether(place);
            if (together > most) {
                most = together;
                which = place;
            }
        }
        return what == 0 ? which : most;
    }

    public int opposed() {
        int twos = 0;
        for (int one = 0; one < now.hands; one++) {
            for (int other = one + 1; other < now.hands; other++) {
                if (now.isAboard(one) && now.isAboard(other) && now.areOpposed(one, other)) {
                    twos++;
                }
            }
        }
        return twos;
    }

    public int home(int hand) {
        int refusal = noHand(hand);
        return refusal != FITS ? refuse(refusal) : now.stepsTo(now.longings[hand]);
    }

    public int nearest() {
        int which = NONE;
        int least = CELLS;
        for (int place = 0; place < now.places; place++) {
            int steps = now.stepsTo(place);
            if (steps < least) {
                least = steps;
                which = place;
            }
        }
        return which;
    }

    public int way(int n) {
        int refusal = outside(n, 1, MOST_DAYS);
        if (refusal != FITS) {
            return refuse(refusal);
        }
        think();
        return thought.goDays(n);
    }

    // ---- two who bid, storms, means

    public int two(int a, int b, int n) {
        int refusal = firstOf(noHand(a), noHand(b));
        refusal = firstOf(refusal, a == b ? NOBODY : FITS);
        refusal = firstOf(refusal, outside(n, 0, MOST_DAYS_CHOSEN));
        if (refusal != FITS) {
            return refuse(refusal);
        }
        for (int pair = 0; pair < ends.length; pair++) {
            ends[pair] = endOfBids(a, b, pair, n);
        }
        for (int pair = 0; pair < ends.length; pair++) {
            if (keepsBid(a, pair, 2) && keepsBid(b, pair, 1)) {
                return 10 * (pair >> 1) + (pair & 1);
            }
        }
        return NONE;
    }

    public long storm(int place, int n, int t, int part) {
        int refusal = firstOf(noPlace(place), below(n, 0));
        refusal = firstOf(refusal, below(t, LEAST_ODDS));
        refusal = firstOf(refusal, above(n, MOST_DAYS_OF_STORM));
        refusal = firstOf(refusal, above(t, MOST_ODDS));
        refusal = firstOf(refusal, noWhat(part, 2));
        if (refusal != FITS) {
            return refuseLong(refusal);
        }
        think();
        weather.blow(thought, n, t);
        return partOf(weather.chances[now.cells[place]], weather.all, part);
    }

    public long mean(int part) {
        int refusal = noWhat(part, 2);
        if (refusal != FITS) {
            return refuseLong(refusal);
        }
        long sum = 0;
        long many = 0;
        for (int hand = 0; hand < now.hands; hand++) {
            if (now.isAboard(hand)) {
                sum += now.seas[hand];
                many++;
            }
        }
        return partOf(sum, many, part);
    }

    // ---- the row of numbers

    public int log(int hand, int what) {
        int refusal = firstOf(noHand(hand), noWhat(what, 2));
        if (refusal != FITS) {
            return refuse(refusal);
        }
        return what == 0 ? placesByLog(hand) : kindsByLog(hand);
    }

    public int row(int v) {
        int refusal = firstOf(outside(v, 0, MOST_NUMBER), numberCount < numbers.length ? FITS : ROOM);
        if (refusal != FITS) {
            return refuse(refusal);
        }
        numbers[numberCount] = v;
        numberCount++;
        return numberCount;
    }

    public int judge() {
        int wrong = firstWrongCourse();
        numberCount = 0;
        return wrong;
    }

    public int clear() {
        int had = numberCount;
        numberCount = 0;
        return had;
    }

    // ---- lots, the image, counts

    public int lots(int n, int z, int what) {
        int refusal = firstOf(outside(n, 1, MOST_VOYAGES), noWhat(what, 2));
        if (refusal != FITS) {
            return refuse(refusal);
        }
        lot.seed = z;
        int atPlaces = 0;
        int cellsTogether = 0;
        for (int voyage = 0; voyage < n; voyage++) {
            think();
            lot.startAnew(thought);
            thought.goDays(DAYS_BY_LOT);
            if (thought.placeHere() != NONE) {
                atPlaces++;
            }
            cellsTogether += thought.ship;
        }
        return what == 0 ? atPlaces : cellsTogether;
    }

    public int image() {
        kept.becomeLike(now);
        keptTaken = true;
        return now.day;
    }

    public int on() {
        if (!keptTaken) {
            return refuse(STATE);
        }
        now.becomeLike(kept);
        return now.day;
    }

    public int count(int what) {
        int refusalKind = what - FIRST_REFUSAL_COUNT + 1;
        if (what >= FIRST_REFUSAL_COUNT && refusalKind < refusals.length) {
            return refusals[refusalKind];
        }
        switch (what) {
            case 0:
                return now.places;
            case 1:
                return now.hands;
            case 2:
                return now.day;
            case 3:
                return now.ship;
            case 4:
                return now.aboard;
            case 5:
                return now.seaOfAll();
            case 6:
                return numberCount;
            case 7:
                return text.size;
            default:
                return NONE;
        }
    }

    // ---- refusals

    private int refuse(int refusal) {
        int kind = -refusal;
        if (kind >= 0 && kind < refusals.length) {
            refusals[kind]++;
        }
        return refusal;
    }

    private int refuseSigned(int refusal) {
        return SIGNED_REFUSAL - refuse(refusal);
    }

    private long refuseLong(int refusal) {
        return LONG_REFUSAL - refuse(refusal);
    }

    private int noHand(int hand) {
        return hand < 0 || hand >= now.hands ? NOBODY : FITS;
    }

    private int noPlace(int place) {
        return place < 0 || place >= now.places ? NOBODY : FITS;
    }

    private static int noWhat(int what, int many) {
        return what < 0 || what >= many ? OTHER : FITS;
    }

    private static int below(int n, int least) {
        return n < least ? BELOW : FITS;
    }

    private static int above(int n, int most) {
        return n > most ? ROOM : FITS;
    }

    private static int outside(int n, int least, int most) {
        return firstOf(below(n, least), above(n, most));
    }

    private static int firstOf(int refusal, int next) {
        return refusal != FITS ? refusal : next;
    }

    // ---- the text becomes a sea

    private int carryOutText() {
        think();
        int at = 0;
        int statements = 0;
        while (at < text.size && statements < MOST_LETTERS) {
            if (!obey(at)) {
                return FAULT_OF_SENSE - at;
            }
            at += text.lengthOfStatement(at);
            statements++;
        }
        now.becomeLike(thought);
        return statements;
    }

    private boolean obey(int at) {
        int number = text.twoDigitsAt(at + 1);
        switch (text.signAt(at)) {
            case 'p':
                return thought.addPlace(number);
            case 'h':
                return thought.addHand(kindOf(text.signAt(at + 1)), text.digitAt(at + 2), text.digitAt(at + 3));
            case 's':
                return obeyShip(number);
            case 'd':
                if (!thought.hasTimeFor(number)) {
                    return false;
                }
                thought.goDays(number);
                return true;
            default:
                return obeyOfHand(at, text.digitAt(at + 1));
        }
    }

    private boolean obeyShip(int cell) {
        if (cell < 0 || cell >= CELLS) {
            return false;
        }
        thought.ship = cell;
        return true;
    }

    private boolean obeyOfHand(int at, int hand) {
        if (hand < 0 || hand >= thought.hands) {
            return false;
        }
        switch (text.signAt(at)) {
            case 'l':
                thought.dropLetter(hand);
                return true;
            case 'a':
                thought.changeSide(hand);
                return true;
            case 'm':
                return obeyLonging(hand, text.digitAt(at + 2));
            default:
                return false;
        }
    }

    private boolean obeyLonging(int hand, int place) {
        if (place < 0 || place >= thought.places) {
            return false;
        }
        thought.longings[hand] = place;
        return true;
    }

    private static int kindOf(int sign) {
        return KIND_SIGNS.indexOf((char) sign);
    }

    // ---- thoughts

    private void think() {
        thought.becomeLike(now);
    }

    /** A time that never comes counts as later than all others. */
    private static int orLate(int when) {
        return when == NONE ? MOST_DAYS + 1 : when;
    }

    /** The fewest hands who bring the ship to the place, alone aboard or by dropping letters. */
    private int fewestHands(int place, int n, boolean byLetters) {
        int sets = 1 << now.hands;
        for (int size = 0; size <= now.hands; size++) {
            for (int set = 0; set < sets; set++) {
                if (Integer.bitCount(set) == size && bringsThere(set, place, n, byLetters)) {
                    return set;
                }
            }
        }
        return NONE;
    }

    private boolean bringsThere(int set, int place, int n, boolean byLetters) {
        think();
        if (byLetters) {
            thought.dropLetters(set);
        } else {
            thought.aboard = set;
        }
        return thought.reaches(place, n) != NONE;
    }

    private int comesWithSigned(int kind, int place) {
        think();
        if (!thought.addHand(kind, FIGURE_SIGNED, place)) {
            return NONE;
        }
        return thought.reaches(place, MOST_DAYS);
    }

    /** A pair of bids has the first hand's in bit 1, the other's in bit 0. */
    private int endOfBids(int a, int b, int pair, int n) {
        think();
        thought.dropLetters((pair >> 1) << a | (pair & 1) << b);
        thought.goDays(n);
        return thought.ship;
    }

    private boolean keepsBid(int hand, int pair, int bidBit) {
        int wanted = now.cells[now.longings[hand]];
        return steps(ends[pair], wanted) <= steps(ends[pair ^ bidBit], wanted);
    }

    private int placesByLog(int hand) {
        int bits = 0;
        for (int place = 0; place < now.places; place++) {
            think();
            thought.longings[hand] = place;
            if (thoughtFollowsRow()) {
                bits |= 1 << place;
            }
        }
        return bits;
    }

    private int kindsByLog(int hand) {
        int bits = 0;
        for (int kind = 0; kind < KINDS; kind++) {
            think();
            thought.kinds[hand] = kind;
            if (thoughtFollowsRow()) {
                bits |= 1 << kind;
            }
        }
        return bits;
    }

    private boolean thoughtFollowsRow() {
        for (int day = 0; day < numberCount; day++) {
            if (thought.ship != numbers[day]) {
                return false;
            }
            thought.goDay();
        }
        return true;
    }

    private int firstWrongCourse() {
        think();
        for (int day = 0; day < numberCount; day++) {
            int course = thought.points();
            if (numbers[day] != (course == NONE ? SPIN_IN_ROW : course)) {
                return day;
            }
            thought.goDay();
        }
        return NONE;
    }

    // ---- reckoning

    private static int rowOf(int cell) {
        return cell / SIDE;
    }

    private static int columnOf(int cell) {
        return cell % SIDE;
    }

    private static int steps(int from, int to) {
        return Math.abs(rowOf(from) - rowOf(to)) + Math.abs(columnOf(from) - columnOf(to));
    }

    /** A part (0 above, 1 below the line) of a fraction in least terms; 0 is told as 0 by 1. */
    private static long partOf(long over, long under, int part) {
        if (over == 0 || under == 0) {
            return part;
        }
        long shared = commonDivisor(over, under);
        if (shared == 0) {
            return part;
        }
        return (part == 0 ? over : under) / shared;
    }

    private static long commonDivisor(long a, long b) {
        long greater = a;
        long lesser = b;
        for (int step = 0; step < 200 && lesser != 0; step++) {
            long rest = greater % lesser;
            greater = lesser;
            lesser = rest;
        }
        return greater;
    }

    /** Places, hands, ship and day, and how they go on. */
    private static final class Voyage {
        private final int[] cells = new int[MOST_PLACES];
        private int places;
        private final int[] kinds = new int[MOST_HANDS];
        private final int[] figures = new int[MOST_HANDS];
        private final int[] longings = new int[MOST_HANDS];
        private final int[] seas = new int[MOST_HANDS];
        private int hands;
        private int aboard;
        private int ship;
        private int day;
        // The needle's two sums, as weigh() last found them.
        private int rows;
        private int columns;

        void becomeLike(Voyage other) {
            places = other.places;
            hands = other.hands;
            aboard = other.aboard;
            ship = other.ship;
            day = other.day;
            System.arraycopy(other.cells, 0, cells, 0, MOST_PLACES);
            System.arraycopy(other.kinds, 0, kinds, 0, MOST_HANDS);
            System.arraycopy(other.figures, 0, figures, 0, MOST_HANDS);
            System.arraycopy(other.longings, 0, longings, 0, MOST_HANDS);
            System.arraycopy(other.seas, 0, seas, 0, MOST_HANDS);
        }

        boolean addPlace(int cell) {
            if (places >= MOST_PLACES || cell < 0 || cell >= CELLS) {
                return false;
            }
            cells[places] = cell;
            places++;
            return true;
        }

        boolean addHand(int kind, int figure, int place) {
            if (hands >= MOST_HANDS || place < 0 || place >= places) {
                return false;
            }
            kinds[hands] = kind;
            figures[hands] = figure;
            longings[hands] = place;
            seas[hands] = 0;
            aboard |= 1 << hands;
            hands++;
            return true;
        }

        boolean isAboard(int hand) {
            return ((aboard >> hand) & 1) == 1;
        }

        void changeSide(int hand) {
            aboard ^= 1 << hand;
        }

        void leaveAshore(int hand) {
            aboard &= ~(1 << hand);
        }

        void dropLetter(int hand) {
            seas[hand] = seas[hand] / 2;
        }

        void dropLetters(int set) {
            for (int hand = 0; hand < hands; hand++) {
                if (((set >> hand) & 1) == 1) {
                    dropLetter(hand);
                }
            }
        }

        int seaOfAll() {
            int sum = 0;
            for (int hand = 0; hand < hands; hand++) {
                sum += seas[hand];
            }
            return sum;
        }

        int stepsTo(int place) {
            return steps(ship, cells[place]);
        }

        int leanNow(int hand) {
            return leanOf(hand, stepsTo(longings[hand]));
        }

        private int leanOf(int hand, int stepsOff) {
            int plain = seas[hand] / 5 + 1;
            switch (kinds[hand]) {
                case PLAIN_HAND:
                    return plain;
                case BOY:
                    return 2 * plain;
                case MASTER:
                    return 0;
                case WHALER:
                    return plain + figures[hand] / 3;
                case QUARRELLER:
                    return -(plain + figures[hand] / 3);
                case DRUNK:
                    return stepsOff >= FAR_FOR_A_DRUNK ? plain : 4 * plain;
                default:
                    return 0;
            }
        }

        int leansTogether(int place) {
            int sum = 0;
            for (int hand = 0; hand < hands; hand++) {
                if (isAboard(hand) && longings[hand] == place) {
                    sum += leanNow(hand);
                }
            }
            return sum;
        }

        /** How many rows the hand's place lies beyond the ship's; below 0, short of it. */
        private int rowsTo(int hand) {
            return cells[longings[hand]] / SIDE - ship / SIDE;
        }

        private int columnsTo(int hand) {
            return cells[longings[hand]] % SIDE - ship % SIDE;
        }

        boolean areOpposed(int one, int other) {
            return rowsTo(one) * rowsTo(other) < 0 || columnsTo(one) * columnsTo(other) < 0;
        }

        void weigh() {
            rows = 0;
            columns = 0;
            for (int hand = 0; hand < hands; hand++) {
                if (isAboard(hand)) {
                    int down = rowsTo(hand);
                    int along = columnsTo(hand);
                    int lean = leanOf(hand, Math.abs(down) + Math.abs(along));
                    rows += lean * Integer.compare(down, 0);
                    columns += lean * Integer.compare(along, 0);
                }
            }
        }

        /** Where the needle points by the sums that weigh() found. */
        private int course() {
            if (Math.abs(rows) > Math.abs(columns)) {
                return rows < 0 ? LESSER_ROWS : GREATER_ROWS;
            }
            if (columns != 0) {
                return columns > 0 ? GREATER_COLUMNS : LESSER_COLUMNS;
            }
            return NONE;
        }

        int points() {
            weigh();
            return course();
        }

        /** The next cell on a course, or the ship's own where there is none. */
        int cellOn(int course) {
            switch (course) {
                case LESSER_ROWS:
                    return rowOf(ship) > 0 ? ship - SIDE : ship;
                case GREATER_COLUMNS:
                    return columnOf(ship) < SIDE - 1 ? ship + 1 : ship;
                case GREATER_ROWS:
                    return rowOf(ship) < SIDE - 1 ? ship + SIDE : ship;
                case LESSER_COLUMNS:
                    return columnOf(ship) > 0 ? ship - 1 : ship;
                default:
                    return ship;
            }
        }

        boolean hasTimeFor(int n) {
            return n >= 1 && n <= MOST_DAYS && day + n <= MOST_DAY;
        }

        /** All of a day but the ship's going. */
        void passDay() {
            day++;
            for (int hand = 0; hand < hands; hand++) {
                if (isAboard(hand)) {
                    seas[hand] = Math.min(MOST_SEA, seas[hand] + 1);
                } else {
                    seas[hand] = Math.max(0, seas[hand] - 1);
                }
            }
        }

        boolean goDay() {
            // Not by points(): a level of calls less under every thought.
            weigh();
            int next = cellOn(course());
            boolean goes = next != ship;
            ship = next;
            passDay();
            return goes;
        }

        /** Answers on how many of the days the ship went. */
        int goDays(int n) {
            int gone = 0;
            for (int passed = 0; passed < n; passed++) {
                if (goDay()) {
                    gone++;
                }
            }
            return gone;
        }

        int placeHere() {
            for (int place = 0; place < places; place++) {
                if (cells[place] == ship) {
                    return place;
                }
            }
            return NONE;
        }

        int reaches(int place, int within) {
            for (int passed = 0; passed <= within; passed++) {
                if (ship == cells[place]) {
                    return passed;
                }
                goDay();
            }
            return NONE;
        }

        int firstPlace(int within) {
            for (int passed = 0; passed <= within; passed++) {
                int place = placeHere();
                if (place != NONE) {
                    return place;
                }
                goDay();
            }
            return NONE;
        }

        int firstSpin(int within) {
            for (int passed = 0; passed <= within; passed++) {
                if (points() == NONE) {
                    return passed;
                }
                goDay();
            }
            return NONE;
        }

        int firstRest(int within) {
            for (int passed = 0; passed <= within; passed++) {
                if (!goDay()) {
                    return passed;
                }
            }
            return NONE;
        }
    }

    /** The letters that have come, and the form that a sea's text has. */
    private static final class Text {
        private final int[] signs = new int[MOST_LETTERS];
        private int size;

        void take(int sign) {
            if (size < MOST_LETTERS) {
                signs[size] = sign;
                size++;
            }
        }

        int signAt(int at) {
            return at >= 0 && at < size ? signs[at] : 0;
        }

        int digitAt(int at) {
            return signAt(at) - '0';
        }

        int twoDigitsAt(int at) {
            return 10 * digitAt(at) + digitAt(at + 1);
        }

        /** The signs between a statement's first letter and its ";"; 0 if no statement begins so. */
        private static int bodyOf(int head) {
            switch (head) {
                case 'l':
                case 'a':
                    return 1;
                case 'p':
                case 's':
                case 'm':
                case 'd':
                    return 2;
                case 'h':
                    return 3;
                default:
                    return 0;
            }
        }

        int lengthOfStatement(int at) {
            return bodyOf(signAt(at)) + 2;
        }

        private static boolean fitsBody(int head, int inside, int sign) {
            if (head == 'h' && inside == 1) {
                return kindOf(sign) >= 0;
            }
            return sign >= '0' && sign <= '9';
        }

        int firstMisfit() {
            int head = 0;
            int inside = 0;
            for (int at = 0; at < size; at++) {
                int sign = signs[at];
                if (inside == 0) {
                    head = sign;
                    inside = 1;
                    if (bodyOf(head) == 0) {
                        return at;
                    }
                } else if (inside <= bodyOf(head)) {
                    if (!fitsBody(head, inside, sign)) {
                        return at;
                    }
                    inside++;
                } else if (sign == ';') {
                    inside = 0;
                } else {
                    return at;
                }
            }
            return size > 0 && inside == 0 ? NONE : size;
        }
    }

    /** How the ship is spread over the cells when on some days it may stay. */
    private static final class Storm {
        private final long[] chances = new long[CELLS];
        private final long[] next = new long[CELLS];
        private long all;

        /** Each cell's chances come to be out of all = t to the power n. */
        void blow(Voyage voyage, int n, int t) {
            for (int cell = 0; cell < CELLS; cell++) {
                chances[cell] = 0;
            }
            chances[voyage.ship] = 1;
            all = 1;
            for (int passed = 0; passed < n; passed++) {
                spread(voyage, t);
                all *= t;
                voyage.passDay();
            }
        }

        private void spread(Voyage voyage, int t) {
            for (int cell = 0; cell < CELLS; cell++) {
                next[cell] = 0;
            }
            for (int cell = 0; cell < CELLS; cell++) {
                if (chances[cell] != 0) {
                    voyage.ship = cell;
                    next[cell] += chances[cell];
                    next[voyage.cellOn(voyage.points())] += chances[cell] * (t - 1);
                }
            }
            System.arraycopy(next, 0, chances, 0, CELLS);
        }
    }

    /** Draws that follow from a seed. */
    private static final class Lot {
        private int seed;

        int draw(int below) {
            seed = seed * 1664525 + 1013904223;
            return below > 0 ? (seed & ALL_BUT_SIGN_BIT) / 256 % below : 0;
        }

        void startAnew(Voyage voyage) {
            voyage.ship = draw(CELLS);
            for (int hand = 0; hand < voyage.hands; hand++) {
                voyage.seas[hand] = draw(SEA_BY_LOT);
            }
        }
    }
}
