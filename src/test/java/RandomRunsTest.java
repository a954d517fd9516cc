import java.lang.reflect.Method;
import java.lang.reflect.Modifier;
import java.util.ArrayList;
import java.util.Arrays;
import java.util.Comparator;
import java.util.List;
import java.util.Random;

/** All promises: runs of calls drawn from fixed seeds, each answer against the Model's. */
public final class RandomRunsTest {
    private static final int RUNS = 400;
    private static final int CALLS = 512;
    private static final int[] EXTREMES = {Integer.MIN_VALUE, Integer.MAX_VALUE, -1000, 1000, -1, 64, 99, 100, 255, 256};
    private static final Due DUE = new Due();

    private final Random random;
    private final NeedleToTheMissed x = new NeedleToTheMissed();
    private final Model model = new Model();
    private final List<String> calls = new ArrayList<>();

    private RandomRunsTest(long seed) {
        random = new Random(seed);
    }

    public static void main(String[] args) throws ReflectiveOperationException {
        int runs = args.length > 0 ? Integer.parseInt(args[0]) : RUNS;
        for (int run = 0; run < runs; run++) {
            new RandomRunsTest(run).go(run);
        }
        DUE.end();
    }

    private void go(int run) throws ReflectiveOperationException {
        Method[] face = Arrays.stream(NeedleToTheMissed.class.getDeclaredMethods())
            .filter(m -> Modifier.isPublic(m.getModifiers()))
            .sorted(Comparator.comparing(Method::getName))
            .toArray(Method[]::new);
        while (calls.size() < CALLS) {
            if (random.nextInt(8) == 0) {
                tell(run);
            } else if (random.nextInt(30) == 0) {
                tellRow(run);
            } else {
                Method m = face[random.nextInt(face.length)];
                Object[] given = new Object[m.getParameterCount()];
                for (int i = 0; i < given.length; i++) {
                    given[i] = argument(m.getName(), m.getParameters()[i].getName());
                }
                call(run, m.getName(), given);
            }
        }
    }

    private void call(int run, String name, Object... given) throws ReflectiveOperationException {
        Class<?>[] types = new Class<?>[given.length];
        Arrays.fill(types, int.class);
        String told = name + Arrays.toString(given);
        calls.add(told);
        long got = ((Number) NeedleToTheMissed.class.getMethod(name, types).invoke(x, given)).longValue();
        Method ofModel = Model.class.getMethod(name, types);
        ofModel.setAccessible(true);
        long want = ((Number) ofModel.invoke(model, given)).longValue();
        DUE.is("run " + run + ", call " + calls.size() + ": " + told, got, want);
    }

    private int argument(String method, String name) {
        if (random.nextInt(25) == 0) {
            return EXTREMES[random.nextInt(EXTREMES.length)];
        }
        switch (name) {
            case "hand":
            case "a":
            case "b":
                return between(random.nextInt(6) == 0 ? -1 : 0, Math.max(1, model.count(1)) - 1 + random.nextInt(8) / 7);
            case "place":
                return between(random.nextInt(6) == 0 ? -1 : 0, Math.max(1, model.count(0)) - 1 + random.nextInt(8) / 7);
            case "n":
                return random.nextInt(3) == 0 ? between(-1, 61) : random.nextInt(2) == 0 ? between(0, 8) : between(0, 31);
            case "t":
                return between(1, 21);
            case "what":
            case "part":
                return method.equals("count") ? between(-1, 18) : method.equals("hand") ? between(-1, 5)
                    : between(0, 1 + random.nextInt(8) / 6);
            case "kind":
                return between(-1, 6);
            case "figure":
                return between(-1, 10);
            case "cell":
                return between(-1, 64);
            case "c":
                return between(-1, 256);
            case "v":
                return between(-1, 100);
            default:
                return random.nextInt();
        }
    }

    private int between(int least, int most) {
        return least + random.nextInt(most - least + 1);
    }

    private void tell(int run) throws ReflectiveOperationException {
        StringBuilder text = new StringBuilder();
        int statements = between(1, random.nextInt(10) == 0 ? 24 : 5);
        for (int i = 0; i < statements; i++) {
            text.append(statement());
        }
        if (random.nextInt(12) == 0) {
            text.setCharAt(random.nextInt(text.length()), "px09;hmad"
                .charAt(random.nextInt(9)));
        }
        if (random.nextInt(12) == 0) {
            text.setLength(random.nextInt(text.length()));
        }
        for (int i = 0; i < text.length(); i++) {
            call(run, "letter", (int) text.charAt(i));
        }
        call(run, "sea");
    }

    private String statement() {
        int places = Math.max(1, model.count(0));
        int hands = Math.max(1, model.count(1));
        int place = random.nextInt(places) + random.nextInt(20) / 19;
        int hand = random.nextInt(hands) + random.nextInt(20) / 19;
        switch (random.nextInt(11)) {
            case 0:
            case 1:
                return String.format("p%02d;", random.nextInt(64 + random.nextInt(20) / 19));
            case 2:
            case 3:
            case 4:
            case 5:
                return "h" + "hbmwqd".charAt(random.nextInt(6)) + random.nextInt(10) + place + ";";
            case 6:
                return String.format("s%02d;", random.nextInt(65));
            case 7:
                return "l" + hand + ";";
            case 8:
                return "a" + hand + ";";
            case 9:
                return "m" + hand + place + ";";
            default:
                return String.format("d%02d;", random.nextInt(62 - random.nextInt(2) * 50));
        }
    }

    /** A row of what will be so, now and then with one number wrong. */
    private void tellRow(int run) throws ReflectiveOperationException {
        call(run, "clear");
        boolean courses = random.nextBoolean();
        int many = between(0, 16);
        int wrong = random.nextInt(30);
        for (int i = 0; i < many; i++) {
            int v = courses ? Math.abs(model.needleThen(i)) : model.shipThen(i);
            call(run, "row", i == wrong ? random.nextInt(100) : v);
        }
        if (courses) {
            call(run, "judge");
        } else if (model.count(1) > 0) {
            int hand = random.nextInt(model.count(1));
            call(run, "log", hand, 0);
            call(run, "log", hand, 1);
        }
    }
}
