import java.lang.reflect.InvocationTargetException;
import java.lang.reflect.Method;
import java.util.HashMap;
import java.util.List;
import java.util.Map;

/** Calls of the public face by their names, on the class and on the model alike. */
final class Calls {
    static final List<String> ACTS = List.of("addDate", "setStage", "set", "buy", "buyOffered", "cancel", "offer",
            "takeBack", "exercise", "await", "leave", "pass", "perform", "restore");
    static final List<String> TELLING = List.of("date", "waiting", "right", "holder", "stage", "priceIn", "wouldCover",
            "event", "count");

    private static final Map<Class<?>, Map<String, Method>> METHODS = new HashMap<>();

    private Calls() {
    }

    static int answer(Object desk, String name, int... arguments) {
        Method method = METHODS.computeIfAbsent(desk.getClass(), Calls::methodsOf).get(name);
        Object[] given = new Object[arguments.length];
        for (int i = 0; i < given.length; i++) {
            given[i] = method.getParameterTypes()[i] == char.class ? (Object) (char) arguments[i] : arguments[i];
        }
        try {
            return (int) method.invoke(desk, given);
        } catch (InvocationTargetException thrown) {
            throw new IllegalStateException(name + " has thrown", thrown.getCause());
        } catch (IllegalAccessException hidden) {
            throw new IllegalStateException(name + " is not seen", hidden);
        }
    }

    private static Map<String, Method> methodsOf(Class<?> one) {
        Map<String, Method> found = new HashMap<>();
        for (Method method : one.getDeclaredMethods()) {
            if (method.getReturnType() == int.class && (ACTS.contains(method.getName()) || TELLING.contains(method.getName())
                    || List.of("type", "clearText", "undo", "keep").contains(method.getName()))) {
                found.put(method.getName(), method);
            }
        }
        return found;
    }

    // ---- all that is told

    /** All that the state of a desk tells; the counts of the history and of the text are no part of it. */
    static String told(Object desk) {
        StringBuilder all = new StringBuilder();
        for (int date = 0; date < answer(desk, "count", 1); date++) {
            row(all.append("\ndate ").append(date).append(':'), desk, "date", date, 14);
            row(all.append(" list"), desk, "waiting", date, 7);
        }
        for (int right = 0; right < answer(desk, "count", 2); right++) {
            row(all.append("\nright ").append(right).append(':'), desk, "right", right, 9);
        }
        for (int holder = 0; holder < 10; holder++) {
            row(all.append("\nholder ").append(holder).append(':'), desk, "holder", holder, 4);
        }
        for (int stage = 0; stage < 4; stage++) {
            row(all.append("\nstage ").append(stage).append(':'), desk, "stage", stage, 2);
        }
        for (int back = 0; back <= 10; back++) {
            row(all.append("\nevent ").append(back).append(':'), desk, "event", back, 4);
        }
        all.append("\ncount:");
        for (int what = 0; what < 14; what++) {
            all.append(' ').append(answer(desk, "count", what));
        }
        return all.toString();
    }

    private static void row(StringBuilder all, Object desk, String name, int first, int bound) {
        for (int second = 0; second < bound; second++) {
            all.append(' ').append(answer(desk, name, first, second));
        }
    }

    /** All that can be learned of a desk: of its state, its text, its history and its snapshot. The desk is used up. */
    static String learned(Object desk) {
        StringBuilder all = new StringBuilder(told(desk));
        all.append("\nsigns ").append(answer(desk, "count", 15));
        int left = answer(desk, "count", 14);
        for (int i = 0; i <= 4 && left >= 0; i++) {
            all.append("\nstates ").append(left).append(told(desk));
            left = answer(desk, "undo");
        }
        all.append("\nsnapshot ").append(answer(desk, "restore")).append(told(desk));
        all.append("\nperformed ").append(answer(desk, "perform")).append(told(desk));
        return all.toString();
    }

    static long sumOfAccounts(Object desk) {
        long sum = answer(desk, "count", 9) - 1000000000L;
        for (int holder = 0; holder < 10; holder++) {
            sum += answer(desk, "holder", holder, 0) - 1000000000L;
        }
        return sum;
    }
}
