import java.lang.reflect.InvocationTargetException;
import java.util.Arrays;

/** Calls told by their words, such as "storm(0, 7, 20, 1)"; "least" and "greatest" are those of an int. */
final class Calls {
    private Calls() {
    }

    static long call(NeedleToTheMissed x, String told) {
        int open = told.indexOf('(');
        String inside = told.substring(open + 1, told.length() - 1);
        Object[] given = inside.isEmpty() ? new Object[0]
            : Arrays.stream(inside.split(", ")).map(Calls::number).toArray();
        Class<?>[] types = new Class<?>[given.length];
        Arrays.fill(types, int.class);
        try {
            Object answer = NeedleToTheMissed.class.getMethod(told.substring(0, open), types).invoke(x, given);
            return ((Number) answer).longValue();
        } catch (InvocationTargetException thrown) {
            throw new IllegalStateException(told + " threw", thrown.getCause());
        } catch (ReflectiveOperationException noCall) {
            throw new IllegalArgumentException(told + " is no call", noCall);
        }
    }

    private static Integer number(String told) {
        switch (told) {
            case "least":
                return Integer.MIN_VALUE;
            case "greatest":
                return Integer.MAX_VALUE;
            default:
                return Integer.valueOf(told);
        }
    }
}
