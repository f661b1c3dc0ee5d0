import java.io.IOException;
import java.nio.file.Files;
import java.nio.file.Path;
import java.util.ArrayList;
import java.util.List;
import java.util.Map;
import java.util.regex.Matcher;
import java.util.regex.Pattern;
import java.util.stream.Stream;

/**
 * Runs the edges under src/test/edges. Each of them quotes a sentence of the document and tells calls on new objects with
 * the answers that are due; README.md tells how they are written. Around every call it is looked that a refused one
 * changes nothing, that telling changes nothing, that an act can be undone, and that the accounts are 0 in sum.
 */
public final class EdgesTest {
    private static final Check check = new Check();
    private static final Path EDGES = Path.of("src/test/edges");
    private static final Path DOCUMENT = Path.of("../shared/DOC.md");
    private static final int MOST_CALLS = 512;
    private static final int MORE = 1000000000;
    private static final Pattern STEP = Pattern.compile("(?:(\\d+) \\* )?(\\w+)\\(([^)]*)\\) = (\\S+?)(\\.\\.)?");
    private static final Pattern ORDERS = Pattern.compile("(write )?\"([^\"]*)\"(?: = (\\S+))?");
    private static final Map<String, Integer> NAMES = Map.of("UNKNOWN", -1, "BAD_VALUE", -2, "FULL", -3,
            "NOT_POSSIBLE", -4, "NONE", -5, "MIN", Integer.MIN_VALUE, "MAX", Integer.MAX_VALUE, "MORE", MORE);

    /** A call and its due answer, null if any will do; looked at is all around it but for those in the midst of a row. */
    private record Call(String name, int[] arguments, Integer due, boolean lookedAt) {
        int answer(RightsDesk desk) {
            return Calls.answer(desk, name, arguments);
        }

        @Override
        public String toString() {
            StringBuilder all = new StringBuilder(name).append('(');
            for (int i = 0; i < arguments.length; i++) {
                all.append(i == 0 ? "" : ", ").append(arguments[i]);
            }
            return all.append(')').toString();
        }
    }

    /** The runs that stand under a sentence, each of them for an object of its own. */
    private static final class Edge {
        final String place;
        final List<List<Call>> runs = new ArrayList<>();
        String sentence = "";

        Edge(String place) {
            this.place = place;
            runs.add(new ArrayList<>());
        }

        List<Call> last() {
            return runs.get(runs.size() - 1);
        }
    }

    public static void main(String[] args) throws IOException {
        List<Edge> edges = new ArrayList<>();
        try (Stream<Path> files = Files.list(EDGES)) {
            for (Path file : files.sorted().toList()) {
                read(file, edges);
            }
        }
        String document = Files.exists(DOCUMENT) ? plain(Files.readString(DOCUMENT)) : null;
        for (Edge edge : edges) {
            check.at(edge.place + " \"" + edge.sentence + "\"");
            check.holds("the document says so", document == null || document.contains(plain(edge.sentence)));
            for (List<Call> run : edge.runs) {
                check.holds("a run has calls, and at most 512", !run.isEmpty() && run.size() <= MOST_CALLS);
                play(run);
                lookAround(run);
            }
        }
        System.out.println(edges.size() + " sentences");
        check.close();
    }

    private static String plain(String text) {
        return text.replace("`", "").replaceAll("\\s+", " ");
    }

    // ---- the files

    private static void read(Path file, List<Edge> edges) throws IOException {
        int number = 0;
        boolean quoting = false;
        for (String line : Files.readAllLines(file)) {
            number++;
            String place = file.getFileName() + ":" + number;
            boolean quote = line.startsWith("> ");
            if (quote) {
                if (!quoting) {
                    edges.add(new Edge(place));
                }
                Edge edge = edges.get(edges.size() - 1);
                edge.sentence = (edge.sentence + " " + line.substring(2)).trim();
            } else if (line.equals("new")) {
                edges.get(edges.size() - 1).runs.add(new ArrayList<>());
            } else if (!line.isBlank() && !line.startsWith("#")) {
                for (String step : line.split(" \\| ")) {
                    readStep(place, step.trim(), edges.get(edges.size() - 1).last());
                }
            }
            quoting = quote;
        }
    }

    private static void readStep(String place, String step, List<Call> run) {
        Matcher calls = STEP.matcher(step);
        Matcher orders = ORDERS.matcher(step);
        if (calls.matches()) {
            int times = calls.group(1) == null ? 1 : Integer.parseInt(calls.group(1));
            int due = number(calls.group(4));
            for (int i = 0; i < times; i++) {
                run.add(new Call(calls.group(2), arguments(calls.group(3)), calls.group(5) == null ? due : due + i,
                        i == times - 1));
            }
        } else if (orders.matches() && (orders.group(1) == null) == (orders.group(3) != null)) {
            readOrders(orders.group(2), run);
            if (orders.group(3) != null) {
                run.add(new Call("perform", new int[0], number(orders.group(3)), true));
            }
        } else {
            throw new IllegalStateException(place + ": what is " + step + "?");
        }
    }

    private static void readOrders(String text, List<Call> run) {
        run.add(new Call("clearText", new int[0], null, false));
        for (int i = 0; i < text.length(); i++) {
            run.add(new Call("type", new int[] {text.charAt(i)}, i + 1, false));
        }
    }

    private static int[] arguments(String text) {
        if (text.isBlank()) {
            return new int[0];
        }
        return Stream.of(text.split(",(?!')")).mapToInt(part -> number(part.trim())).toArray();
    }

    private static int number(String text) {
        if (text.length() == 3 && text.startsWith("'") && text.endsWith("'")) {
            return text.charAt(1);
        }
        Matcher sum = Pattern.compile("([A-Z_]+)([+-]\\d+)?").matcher(text);
        if (!sum.matches()) {
            return Integer.parseInt(text);
        }
        return NAMES.get(sum.group(1)) + (sum.group(2) == null ? 0 : Integer.parseInt(sum.group(2)));
    }

    // ---- the runs

    private static void play(List<Call> run) {
        RightsDesk desk = new RightsDesk();
        for (int i = 0; i < run.size(); i++) {
            Call call = run.get(i);
            int answer = call.answer(desk);
            if (call.due != null) {
                check.due(call + " as call " + (i + 1), answer, call.due);
            }
        }
    }

    private static RightsDesk after(List<Call> run, int calls) {
        RightsDesk desk = new RightsDesk();
        for (int i = 0; i < calls; i++) {
            run.get(i).answer(desk);
        }
        return desk;
    }

    private static void lookAround(List<Call> run) {
        String[] learned = new String[run.size() + 1];
        for (int i = 0; i < run.size() && check.isRight(); i++) {
            Call call = run.get(i);
            if (!call.lookedAt) {
                continue;
            }
            int answer = call.answer(after(run, i));
            check.due("the sum of the accounts after " + call, Calls.sumOfAccounts(after(run, i + 1)), 0);
            if (answer < 0 || Calls.TELLING.contains(call.name)) {
                check.holds(call + " as call " + (i + 1) + " has changed something",
                        learned(run, i, learned).equals(learned(run, i + 1, learned)));
            } else if (Calls.ACTS.contains(call.name)) {
                actIsUndone(run, i);
            } else if (!call.name.equals("undo")) {
                check.holds(call + " has changed the state", Calls.told(after(run, i)).equals(Calls.told(after(run, i + 1))));
                check.due("states after " + call, after(run, i + 1).count(14), after(run, i).count(14));
            }
        }
    }

    private static String learned(List<Call> run, int calls, String[] known) {
        if (known[calls] == null) {
            known[calls] = Calls.learned(after(run, calls));
        }
        return known[calls];
    }

    private static void actIsUndone(List<Call> run, int number) {
        RightsDesk before = after(run, number);
        RightsDesk desk = after(run, number + 1);
        int states = Math.min(4, before.count(14) + 1);
        check.due("states after " + run.get(number), desk.count(14), states);
        check.due("undo() of " + run.get(number), desk.undo(), states - 1);
        check.holds("undo() of " + run.get(number) + " brings all back", Calls.told(before).equals(Calls.told(desk)));
        check.due("signs after undo()", desk.count(15), before.count(15));
    }
}
