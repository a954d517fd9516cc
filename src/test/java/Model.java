import java.math.BigInteger;
import java.util.ArrayList;
import java.util.Arrays;
import java.util.List;
import java.util.function.Consumer;
import java.util.regex.Matcher;
import java.util.regex.Pattern;

/**
 * The document once more, in another way than the program's: objects made anew for every thought,
 * a class for each kind, a pattern for the text, all paths of a storm one by one.
 */
final class Model {
    private static final Pattern SEA = Pattern.compile(
        "(?:p[0-9][0-9];|h[hbmwqd][0-9][0-9];|s[0-9][0-9];|l[0-9];|a[0-9];|m[0-9][0-9];|d[0-9][0-9];)+",
        Pattern.DOTALL);

    private World now = new World();
    private World image;
    private StringBuilder letters = new StringBuilder();
    private List<Integer> row = new ArrayList<>();
    private final int[] refused = new int[7];

    static class Hand {
        int kind;
        int figure;
        int misses;
        int sea;
        boolean aboard = true;

        Hand copy() {
            Hand h = new Hand();
            h.kind = kind;
            h.figure = figure;
            h.misses = misses;
            h.sea = sea;
            h.aboard = aboard;
            return h;
        }

        int leans(int steps) {
            int asHand = (sea - sea % 5) / 5 + 1;
            int asBoy = asHand * 2;
            int asWhaler = asHand + (figure - figure % 3) / 3;
            int asDrunk = steps >= 4 ? asBoy / 2 : asBoy * 2;
            return new int[] {asHand, asBoy, 0, asWhaler, -asWhaler, asDrunk}[kind];
        }
    }

    static class World {
        List<Integer> places = new ArrayList<>();
        List<Hand> hands = new ArrayList<>();
        int ship;
        int day;

        World copy() {
            World w = new World();
            w.places.addAll(places);
            for (Hand h : hands) {
                w.hands.add(h.copy());
            }
            w.ship = ship;
            w.day = day;
            return w;
        }

        int steps(int place) {
            return apart(ship, places.get(place));
        }

        int[] sums() {
            int rows = 0;
            int columns = 0;
            for (Hand h : hands) {
                if (!h.aboard) {
                    continue;
                }
                int to = places.get(h.misses);
                int lean = h.leans(apart(ship, to));
                if (to / 8 > ship / 8) {
                    rows += lean;
                }
                if (to / 8 < ship / 8) {
                    rows -= lean;
                }
                if (to % 8 > ship % 8) {
                    columns += lean;
                }
                if (to % 8 < ship % 8) {
                    columns -= lean;
                }
            }
            return new int[] {rows, columns};
        }

        int needle() {
            int[] s = sums();
            if (s[0] * s[0] > s[1] * s[1]) {
                return s[0] < 0 ? 0 : 2;
            }
            return s[1] == 0 ? -9 : s[1] > 0 ? 1 : 3;
        }

        World next(boolean stays) {
            World w = copy();
            int course = needle();
            if (!stays && course != -9) {
                int r = ship / 8 + new int[] {-1, 0, 1, 0}[course];
                int c = ship % 8 + new int[] {0, 1, 0, -1}[course];
                if (r >= 0 && r <= 7 && c >= 0 && c <= 7) {
                    w.ship = r * 8 + c;
                }
            }
            w.day++;
            for (Hand h : w.hands) {
                h.sea += h.aboard ? (h.sea < 99 ? 1 : 0) : (h.sea > 0 ? -1 : 0);
            }
            return w;
        }

        /** The worlds behind 0, 1, .. n days. */
        List<World> course(int n) {
            List<World> all = new ArrayList<>();
            all.add(this);
            for (int i = 0; i < n; i++) {
                all.add(all.get(i).next(false));
            }
            return all;
        }

        World after(int n) {
            return course(n).get(n);
        }

        World with(Consumer<World> change) {
            World w = copy();
            change.accept(w);
            return w;
        }

        int comes(int place, int n) {
            List<World> all = course(n);
            for (int i = 0; i <= n; i++) {
                if (all.get(i).ship == places.get(place)) {
                    return i;
                }
            }
            return -9;
        }

        int door() {
            for (World w : course(60)) {
                int at = places.indexOf(w.ship);
                if (at >= 0) {
                    return at;
                }
            }
            return -9;
        }

        BigInteger stormy(int cell, int n, int t) {
            if (n == 0) {
                return ship == cell ? BigInteger.ONE : BigInteger.ZERO;
            }
            BigInteger goes = next(false).stormy(cell, n - 1, t).multiply(BigInteger.valueOf(t - 1));
            return goes.add(next(true).stormy(cell, n - 1, t));
        }

        boolean tell(String s) {
            String body = s.substring(1);
            int number = body.matches("[0-9]+") ? Integer.parseInt(body) : -1;
            switch (s.charAt(0)) {
                case 'p':
                    return number <= 63 && places.size() < 6 && places.add(number);
                case 's':
                    ship = number;
                    return number <= 63;
                case 'd':
                    if (number < 1 || number > 60 || day + number > 999) {
                        return false;
                    }
                    World w = after(number);
                    hands = w.hands;
                    ship = w.ship;
                    day = w.day;
                    return true;
                case 'h':
                    Hand h = new Hand();
                    h.kind = "hbmwqd".indexOf(s.charAt(1));
                    h.figure = s.charAt(2) - '0';
                    h.misses = s.charAt(3) - '0';
                    return h.misses < places.size() && hands.size() < 7 && hands.add(h);
                default:
                    return tellOf(s, body.charAt(0) - '0');
            }
        }

        boolean tellOf(String s, int hand) {
            if (hand >= hands.size()) {
                return false;
            }
            Hand h = hands.get(hand);
            if (s.charAt(0) == 'l') {
                h.sea /= 2;
            } else if (s.charAt(0) == 'a') {
                h.aboard = !h.aboard;
            } else {
                h.misses = s.charAt(2) - '0';
                return h.misses < places.size();
            }
            return true;
        }
    }

    private static int apart(int a, int b) {
        return Math.abs(a / 8 - b / 8) + Math.abs(a % 8 - b % 8);
    }

    private int no(int number) {
        refused[-number]++;
        return number;
    }

    private boolean isHand(int h) {
        return h >= 0 && h < now.hands.size();
    }

    private boolean isPlace(int p) {
        return p >= 0 && p < now.places.size();
    }

    public int letter(int c) {
        if (c < 0) {
            return no(-4);
        }
        if (c > 255 || letters.length() == 96) {
            return no(-6);
        }
        letters.append((char) c);
        return letters.length();
    }

    public int sea() {
        String s = letters.toString();
        letters = new StringBuilder();
        if (!SEA.matcher(s).matches()) {
            for (int i = 1; i <= s.length(); i++) {
                Matcher m = SEA.matcher(s.substring(0, i));
                if (!m.matches() && !m.hitEnd()) {
                    return -1000 - (i - 1);
                }
            }
            return -1000 - s.length();
        }
        World told = now.copy();
        int at = 0;
        String[] parts = s.split(";");
        for (String part : parts) {
            if (!told.tell(part)) {
                return -2000 - at;
            }
            at += part.length() + 1;
        }
        now = told;
        return parts.length;
    }

    public int hand(int hand, int what) {
        if (!isHand(hand)) {
            return no(-1);
        }
        if (what < 0 || what > 4) {
            return no(-2);
        }
        Hand h = now.hands.get(hand);
        return new int[] {h.kind, h.figure, h.misses, h.sea, h.aboard ? 1 : 0}[what];
    }

    public int place(int place) {
        return isPlace(place) ? now.places.get(place) : no(-1);
    }

    public int leans(int hand) {
        if (!isHand(hand)) {
            return 1000000000 - no(-1);
        }
        Hand h = now.hands.get(hand);
        return h.leans(now.steps(h.misses));
    }

    public int drops(int hand) {
        return isHand(hand) ? now.hands.get(hand).sea /= 2 : no(-1);
    }

    public int boards(int hand) {
        if (!isHand(hand)) {
            return no(-1);
        }
        Hand h = now.hands.get(hand);
        h.aboard = !h.aboard;
        return h.aboard ? 1 : 0;
    }

    public int sails(int cell) {
        if (cell < 0 || cell > 63) {
            return no(-1);
        }
        int was = now.ship;
        now.ship = cell;
        return was;
    }

    public int misses(int hand, int place) {
        if (!isHand(hand) || !isPlace(place)) {
            return no(-1);
        }
        int was = now.hands.get(hand).misses;
        now.hands.get(hand).misses = place;
        return was;
    }

    public int turn(int hand, int kind, int figure) {
        if (!isHand(hand)) {
            return no(-1);
        }
        if (kind < 0 || kind > 5) {
            return no(-2);
        }
        if (figure < 0) {
            return no(-4);
        }
        if (figure > 9) {
            return no(-6);
        }
        Hand h = now.hands.get(hand);
        int was = 10 * h.kind + h.figure;
        h.kind = kind;
        h.figure = figure;
        return was;
    }

    public int days(int n) {
        if (n < 1) {
            return no(-4);
        }
        if (n > 60 || now.day + n > 999) {
            return no(-6);
        }
        now = now.after(n).copy();
        return now.ship;
    }

    public int needle() {
        return now.needle();
    }

    public int shipThen(int n) {
        return n < 0 ? no(-4) : n > 60 ? no(-6) : now.after(n).ship;
    }

    public int needleThen(int n) {
        return n < 0 ? no(-4) : n > 60 ? no(-6) : now.after(n).needle();
    }

    public int seaThen(int hand, int n) {
        return !isHand(hand) ? no(-1) : n < 0 ? no(-4) : n > 60 ? no(-6) : now.after(n).hands.get(hand).sea;
    }

    public int comes(int place) {
        return isPlace(place) ? now.comes(place, 60) : no(-1);
    }

    public int door(int what) {
        if (what < 0 || what > 2) {
            return no(-2);
        }
        if (what == 0) {
            return now.door();
        }
        List<World> all = now.course(61);
        for (int i = 0; i <= 60; i++) {
            World w = all.get(i);
            if (what == 1 ? w.needle() == -9 : all.get(i + 1).ship == w.ship) {
                return i;
            }
        }
        return -9;
    }

    public int crew(int place, int n) {
        if (!isPlace(place)) {
            return no(-1);
        }
        if (n < 0 || n > 30) {
            return no(n < 0 ? -4 : -6);
        }
        int best = -9;
        for (int set = 0; set < 1 << now.hands.size(); set++) {
            int alone = set;
            World w = now.with(x -> {
                for (int h = 0; h < x.hands.size(); h++) {
                    x.hands.get(h).aboard = (alone & 1 << h) != 0;
                }
            });
            best = fewer(best, set, w.comes(place, n));
        }
        return best;
    }

    public int letters(int place, int n) {
        if (!isPlace(place)) {
            return no(-1);
        }
        if (n < 0 || n > 30) {
            return no(n < 0 ? -4 : -6);
        }
        int best = -9;
        for (int set = 0; set < 1 << now.hands.size(); set++) {
            int who = set;
            World w = now.with(x -> {
                for (int h = 0; h < x.hands.size(); h++) {
                    x.hands.get(h).sea /= (who & 1 << h) != 0 ? 2 : 1;
                }
            });
            best = fewer(best, set, w.comes(place, n));
        }
        return best;
    }

    private static int fewer(int best, int set, int comes) {
        if (comes == -9 || best != -9 && Integer.bitCount(best) <= Integer.bitCount(set)) {
            return best;
        }
        return set;
    }

    public int ashore(int place) {
        if (!isPlace(place)) {
            return no(-1);
        }
        int without = now.comes(place, 60);
        List<Integer> times = new ArrayList<>();
        for (int h = 0; h < now.hands.size(); h++) {
            int hand = h;
            int when = now.with(x -> x.hands.get(hand).aboard = false).comes(place, 60);
            times.add(when == -9 ? 1000 : when);
        }
        if (times.isEmpty()) {
            return -9;
        }
        int least = times.stream().min(Integer::compare).get();
        return least < (without == -9 ? 1000 : without) ? times.indexOf(least) : -9;
    }

    public int turners() {
        int bits = 0;
        for (int h = 0; h < now.hands.size(); h++) {
            int hand = h;
            if (now.with(x -> x.hands.get(hand).aboard = false).needle() != now.needle()) {
                bits += 1 << h;
            }
        }
        return bits;
    }

    public int pull(int what) {
        return what < 0 || what > 1 ? 1000000000 - no(-2) : now.sums()[what];
    }

    public int strongest() {
        int best = -9;
        for (int h = now.hands.size() - 1; h >= 0; h--) {
            if (now.hands.get(h).aboard && (best == -9 || Math.abs(leans(h)) >= Math.abs(leans(best)))) {
                best = h;
            }
        }
        return best;
    }

    public int missed(int what) {
        if (what < 0 || what > 1) {
            return 1000000000 - no(-2);
        }
        int[] sums = new int[now.places.size()];
        for (Hand h : now.hands) {
            sums[h.misses] += h.aboard ? h.leans(now.steps(h.misses)) : 0;
        }
        if (sums.length == 0) {
            return what == 0 ? -9 : 0;
        }
        int most = Arrays.stream(sums).max().getAsInt();
        if (what == 1) {
            return most;
        }
        int place = 0;
        while (sums[place] != most) {
            place++;
        }
        return place;
    }

    public int opposed() {
        int twos = 0;
        for (Hand one : now.hands) {
            for (Hand other : now.hands) {
                if (one.aboard && other.aboard) {
                    int a = now.places.get(one.misses);
                    int b = now.places.get(other.misses);
                    boolean rows = a / 8 < now.ship / 8 && b / 8 > now.ship / 8;
                    boolean columns = a % 8 < now.ship % 8 && b % 8 > now.ship % 8;
                    boolean rowsBack = b / 8 < now.ship / 8 && a / 8 > now.ship / 8;
                    boolean columnsBack = b % 8 < now.ship % 8 && a % 8 > now.ship % 8;
                    twos += rows || columns || rowsBack || columnsBack ? 1 : 0;
                }
            }
        }
        return twos / 2;
    }

    public int sign(int place, int what) {
        if (!isPlace(place)) {
            return no(-1);
        }
        if (what < 0 || what > 1) {
            return no(-2);
        }
        if (now.hands.size() == 7) {
            return -9;
        }
        for (int when = 0; when <= 60; when++) {
            for (int kind = 0; kind < 6; kind++) {
                Hand more = new Hand();
                more.kind = kind;
                more.figure = 5;
                more.misses = place;
                if (now.with(x -> x.hands.add(more)).after(when).ship == now.places.get(place)) {
                    return what == 0 ? kind : when;
                }
            }
        }
        return -9;
    }

    public int home(int hand) {
        return isHand(hand) ? now.steps(now.hands.get(hand).misses) : no(-1);
    }

    public int nearest() {
        int best = -9;
        for (int p = now.places.size() - 1; p >= 0; p--) {
            if (best == -9 || now.steps(p) <= now.steps(best)) {
                best = p;
            }
        }
        return best;
    }

    public int way(int n) {
        if (n < 1 || n > 60) {
            return no(n < 1 ? -4 : -6);
        }
        List<World> all = now.course(n);
        int goes = 0;
        for (int i = 0; i < n; i++) {
            goes += all.get(i).ship != all.get(i + 1).ship ? 1 : 0;
        }
        return goes;
    }

    public int two(int a, int b, int n) {
        if (!isHand(a) || !isHand(b) || a == b) {
            return no(-1);
        }
        if (n < 0 || n > 30) {
            return no(n < 0 ? -4 : -6);
        }
        for (int x = 0; x < 2; x++) {
            for (int y = 0; y < 2; y++) {
                boolean firstKeeps = bid(a, b, x, y, n, a) <= bid(a, b, 1 - x, y, n, a);
                boolean otherKeeps = bid(a, b, x, y, n, b) <= bid(a, b, x, 1 - y, n, b);
                if (firstKeeps && otherKeeps) {
                    return 10 * x + y;
                }
            }
        }
        return -9;
    }

    private int bid(int a, int b, int x, int y, int n, int whose) {
        World end = now.with(w -> {
            w.hands.get(a).sea /= 1 + x;
            w.hands.get(b).sea /= 1 + y;
        }).after(n);
        return end.steps(now.hands.get(whose).misses);
    }

    public long storm(int place, int n, int t, int part) {
        int no = !isPlace(place) ? -1 : n < 0 || t < 2 ? -4 : n > 7 || t > 20 ? -6 : part < 0 || part > 1 ? -2 : 0;
        if (no != 0) {
            return 4000000000000000000L - no(no);
        }
        return part(now.stormy(now.places.get(place), n, t), BigInteger.valueOf(t).pow(n), part);
    }

    public long mean(int part) {
        if (part < 0 || part > 1) {
            return 4000000000000000000L - no(-2);
        }
        long sum = now.hands.stream().filter(h -> h.aboard).mapToLong(h -> h.sea).sum();
        long many = now.hands.stream().filter(h -> h.aboard).count();
        return part(BigInteger.valueOf(sum), BigInteger.valueOf(Math.max(1, many)), part);
    }

    private static long part(BigInteger over, BigInteger under, int part) {
        return (part == 0 ? over : under).divide(over.gcd(under)).longValueExact();
    }

    public int log(int hand, int what) {
        if (!isHand(hand)) {
            return no(-1);
        }
        if (what < 0 || what > 1) {
            return no(-2);
        }
        int bits = 0;
        for (int i = 0; i < (what == 0 ? now.places.size() : 6); i++) {
            int choice = i;
            List<World> all = now.with(w -> {
                if (what == 0) {
                    w.hands.get(hand).misses = choice;
                } else {
                    w.hands.get(hand).kind = choice;
                }
            }).course(16);
            boolean so = true;
            for (int d = 0; d < row.size(); d++) {
                so &= all.get(d).ship == row.get(d);
            }
            bits += so ? 1 << i : 0;
        }
        return bits;
    }

    public int row(int v) {
        if (v < 0) {
            return no(-4);
        }
        if (v > 99 || row.size() == 16) {
            return no(-6);
        }
        row.add(v);
        return row.size();
    }

    public int judge() {
        List<Integer> told = row;
        row = new ArrayList<>();
        List<World> all = now.course(16);
        for (int d = 0; d < told.size(); d++) {
            if (Math.abs(all.get(d).needle()) != told.get(d)) {
                return d;
            }
        }
        return -9;
    }

    public int clear() {
        int had = row.size();
        row.clear();
        return had;
    }

    public int lots(int n, int z, int what) {
        if (n < 1 || n > 20) {
            return no(n < 1 ? -4 : -6);
        }
        if (what < 0 || what > 1) {
            return no(-2);
        }
        BigInteger[] seed = {BigInteger.valueOf(z)};
        int atPlace = 0;
        int cells = 0;
        for (int i = 0; i < n; i++) {
            World end = now.with(w -> {
                w.ship = draw(seed, 64);
                w.hands.forEach(h -> h.sea = draw(seed, 40));
            }).after(12);
            atPlace += now.places.contains(end.ship) ? 1 : 0;
            cells += end.ship;
        }
        return what == 0 ? atPlace : cells;
    }

    private static int draw(BigInteger[] seed, int m) {
        seed[0] = seed[0].multiply(BigInteger.valueOf(1664525)).add(BigInteger.valueOf(1013904223));
        BigInteger unsigned = seed[0].mod(BigInteger.ONE.shiftLeft(31));
        return unsigned.divide(BigInteger.valueOf(256)).mod(BigInteger.valueOf(m)).intValueExact();
    }

    public int image() {
        image = now.copy();
        return now.day;
    }

    public int on() {
        if (image == null) {
            return no(-3);
        }
        now = image.copy();
        return now.day;
    }

    public int count(int what) {
        if (what >= 11 && what <= 16) {
            return refused[what - 10];
        }
        int aboard = 0;
        int sea = 0;
        for (int h = 0; h < now.hands.size(); h++) {
            aboard += now.hands.get(h).aboard ? 1 << h : 0;
            sea += now.hands.get(h).sea;
        }
        int[] all = {now.places.size(), now.hands.size(), now.day, now.ship, aboard, sea, row.size(),
            letters.length()};
        return what >= 0 && what < all.length ? all[what] : -9;
    }
}
