import java.util.ArrayList;
import java.util.List;

/**
 * Calls every method that takes ints in some states with every edge of its arguments, at the utmost ints too: one argument
 * or two at a time are any edges, the others are fine ones. The model tells what is due.
 */
public final class SweepTest {
    private static final Check check = new Check();
    private static final int MIN = Integer.MIN_VALUE;
    private static final int MAX = Integer.MAX_VALUE;
    private static final int CALLS_OF_AN_OBJECT = 400;
    private static final int[] EDGES = {MIN, MIN + 1, MIN / 2, -101, -6, -1, 0, 1, 2, 3, 4, 5, 6, 7, 8, 9, 10, 11, 13, 14, 15,
        16, 19, 20, 21, 29, 30, 31, 50, 51, 59, 60, 61, 99, 100, 101, 200, 201, 998, 999, 1000, 9998, 9999, 10000,
        MAX / 2 + 1, MAX - 1, MAX};
    private static final Object[][] METHODS = {
        {"addDate", 999, 20, 5, 9999, 2}, {"setStage", 1, 14, 31}, {"set", 3, 400}, {"buy", 1, 0}, {"buyOffered", 1, 0},
        {"cancel", 0}, {"offer", 0, 5}, {"takeBack", 0}, {"exercise", 0}, {"await", 1, 0}, {"leave", 1, 0}, {"pass", 1},
        {"date", 0, 0}, {"waiting", 0, 0}, {"right", 0, 0}, {"holder", 0, 0}, {"stage", 0, 0}, {"priceIn", 0, 0},
        {"wouldCover", 0}, {"event", 0, 0}, {"count", 0}};
    /** The calls before a sweep: a name, its arguments, and how often if not once. */
    private static final String[] STATES = {
        "",
        "addDate 20 2 2 100 1, addDate 5 3 0 7 2, buy 0 0, buy 1 0, buy 2 0, buy 3 1, buy 4 1, buy 5 1, offer 1 50, "
            + "offer 2 60, exercise 3, cancel 4, await 6 0, await 7 0, await 0 1, keep, buy 9 0",
        "addDate 6 2 3 100 0, addDate 9 1 1 9999 2, buy 0 0 * 5, buy 1 1, buy 2 1, offer 0 200, pass 3, await 5 0, await 6 0",
        "set 0 0, addDate 2 2 3 100 0, addDate 3 1 5 9999 1, buy 0 0 * 4, buy 1 1 * 6, exercise 0, await 5 0, await 5 1, offer 8 3, "
            + "pass 2, set 0 3",
        "addDate 900 20 5 3 0 * 9, buy 1 0 * 25, buy 2 1 * 25, buy 3 2 * 9, addDate 1 1 0 1 0, await 4 3, "
            + "await 5 3, await 6 3, await 7 3, await 8 3, await 9 3",
        "addDate 900 20 5 3 0 * 10, buy 1 0 * 25, buy 2 1 * 25, buy 3 2 * 10, pass 10",
        "addDate 999 1 1 50 1, addDate 998 1 1 50 2, buy 0 0, buy 1 0, buy 2 1, pass 60 * 16, pass 38",
        "addDate 9 2 2 100 1, buy 0 0, exercise 0, pass 60 * 166, pass 39",
        "set 0 0, set 1 50, set 2 60, set 3 9999, setStage 0 99 0, setStage 1 98 100, setStage 2 1 1, setStage 3 0 0, "
            + "addDate 61 1 1 9999 2, buy 0 0, buy 1 0, offer 1 19998, pass 1",
        "set 0 9, set 2 1, addDate 9 1 5 9999 1, addDate 10 1 5 9999 1, addDate 1 1 0 1 0, buy 0 1 * 6, buy 1 0, buy 2 2, "
            + "await 3 1, await 3 0"};

    public static void main(String[] args) {
        for (int state = 0; state < STATES.length; state++) {
            for (Object[] method : METHODS) {
                if (check.isRight()) {
                    check.at("sweep, state " + state);
                    new SweepTest(STATES[state]).sweep(method);
                }
            }
        }
        check.close();
    }

    private final List<String> before = new ArrayList<>();
    private RightsDesk desk;
    private DeskModel model;
    private int calls;

    private SweepTest(String state) {
        for (String call : state.split(", ")) {
            String[] parts = call.split(" \\* ");
            for (int i = 0; i < (parts.length < 2 ? 1 : Integer.parseInt(parts[1])) && !call.isEmpty(); i++) {
                before.add(parts[0]);
            }
        }
        renew();
    }

    private void renew() {
        desk = new RightsDesk();
        model = new DeskModel();
        calls = 0;
        for (String call : before) {
            String[] words = call.split(" ");
            int[] given = new int[words.length - 1];
            for (int i = 0; i < given.length; i++) {
                given[i] = Integer.parseInt(words[i + 1]);
            }
            check.holds(call + " is fine", same(words[0], given) >= 0);
        }
    }

    private int same(String name, int... given) {
        int answer = Calls.answer(desk, name, given);
        check.due(name + java.util.Arrays.toString(given), answer, Calls.answer(model, name, given));
        calls++;
        return answer;
    }

    private void sweep(Object[] method) {
        String name = (String) method[0];
        int[] given = new int[method.length - 1];
        for (int first = 0; first < given.length; first++) {
            for (int second = Math.min(first + 1, given.length - 1); second < given.length; second++) {
                for (int edge : EDGES) {
                    for (int other : first == second ? new int[] {edge} : EDGES) {
                        for (int i = 0; i < given.length; i++) {
                            given[i] = i == first ? edge : i == second ? other : (int) method[i + 1];
                        }
                        one(name, given);
                    }
                }
            }
        }
        check.holds("all is told alike after " + name, Calls.told(desk).equals(Calls.told(model)));
    }

    private void one(String name, int[] given) {
        if (calls >= CALLS_OF_AN_OBJECT) {
            check.holds("all is told alike after " + name, Calls.told(desk).equals(Calls.told(model)));
            renew();
        }
        int answer = check.isRight() ? same(name, given) : -1;
        if (answer >= 0 && Calls.ACTS.contains(name)) {
            same("undo");
        }
    }
}
