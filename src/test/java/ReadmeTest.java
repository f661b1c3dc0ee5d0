import java.io.IOException;
import java.lang.reflect.Method;
import java.lang.reflect.Modifier;
import java.nio.file.Files;
import java.nio.file.Path;
import java.util.ArrayList;
import java.util.List;
import java.util.Set;
import java.util.TreeSet;
import java.util.regex.Matcher;
import java.util.regex.Pattern;
import java.util.stream.Stream;

/** What README.md says: its examples are compiled and run, its calls and tests are held against those that there are. */
public final class ReadmeTest {
    private static final Check check = new Check();
    private static final Path README = Path.of("README.md");
    private static final Pattern BLOCK = Pattern.compile("(?ms)^```java\n(.*?)^```$");
    private static final Pattern LINE = Pattern.compile("(?:int (\\w+) = )?(desk\\.\\w+\\(.*?\\)); +// (-?\\w+)(?:: .*)?");
    private static final Pattern CALL = Pattern.compile("(?m)^\\| `(\\w+)\\(([^)]*)\\)`( \\*)? \\|");
    private static final Pattern TEST = Pattern.compile("(?m)^\\| `(\\w+Test)` \\|");
    private static final Pattern FILE = Pattern.compile("`((?:src|\\.ci)/[\\w./]+)`");

    public static void main(String[] args) throws Exception {
        String page = Files.readString(README);
        examples(page);
        constants(page);
        calls(page);
        tests(page);
        files(page);
        check.close();
    }

    // ---- the examples

    private static void examples(String page) throws Exception {
        check.at("examples");
        StringBuilder body = new StringBuilder();
        List<String> said = new ArrayList<>();
        Matcher block = BLOCK.matcher(page);
        while (block.find()) {
            for (String line : block.group(1).split("\n")) {
                body.append(statement(line, said));
            }
        }
        check.holds("at least 20 answers are told", said.size() >= 20);
        int[] answers = run(body.toString(), said.size());
        for (int i = 0; i < answers.length; i++) {
            check.due("the answer " + (i + 1), answers[i], number(said.get(i)));
        }
    }

    /** The line, with its answer put into the row of answers if the line tells one. */
    private static String statement(String line, List<String> said) {
        Matcher told = LINE.matcher(line);
        if (!told.matches()) {
            check.holds("an answer is told so that it is looked at: " + line, !line.contains("//"));
            return line + "\n";
        }
        String answer = "answers[" + said.size() + "] = ";
        said.add(told.group(3));
        return (told.group(1) == null ? answer : "int " + told.group(1) + " = " + answer) + told.group(2) + ";\n";
    }

    private static int[] run(String body, int answers) throws Exception {
        Path place = Files.createTempDirectory("readme");
        Path source = place.resolve("ReadmeExample.java");
        try {
            Files.writeString(source, "public final class ReadmeExample { public static int[] run() { int[] answers = new int["
                    + answers + "];\n" + body + "return answers; } }\n");
            int failed = new ProcessBuilder("javac", "-cp", System.getProperty("java.class.path"), "-d", place.toString(),
                    source.toString()).inheritIO().start().waitFor();
            check.due("compiling the examples", failed, 0);
            return failed == 0 ? (int[]) load(place).getMethod("run").invoke(null) : new int[0];
        } finally {
            remove(place);
        }
    }

    private static Class<?> load(Path place) throws IOException {
        byte[] code = Files.readAllBytes(place.resolve("ReadmeExample.class"));
        return new ClassLoader(ReadmeTest.class.getClassLoader()) {
            Class<?> define() {
                return defineClass("ReadmeExample", code, 0, code.length);
            }
        }.define();
    }

    private static void remove(Path place) throws IOException {
        try (Stream<Path> files = Files.list(place)) {
            for (Path file : files.toList()) {
                Files.delete(file);
            }
        }
        Files.delete(place);
    }

    private static int number(String text) throws ReflectiveOperationException {
        return text.matches("-?\\d+") ? Integer.parseInt(text) : RightsDesk.class.getField(text).getInt(null);
    }

    // ---- the rest of the page

    private static void constants(String page) throws ReflectiveOperationException {
        check.at("constants");
        for (String name : new String[] {"UNKNOWN", "BAD_VALUE", "FULL", "NOT_POSSIBLE", "NONE"}) {
            check.holds(name + " stands with its number", page.replace('(', ' ').replaceAll("\\s+", " ")
                    .contains("`" + name + "` " + number(name)));
        }
    }

    private static void calls(String page) {
        check.at("calls");
        Set<String> told = new TreeSet<>();
        Matcher call = CALL.matcher(page.substring(page.indexOf("## The calls"), page.indexOf("## How to run the tests")));
        while (call.find()) {
            int arguments = call.group(2).isEmpty() ? 0 : call.group(2).split(", ").length;
            told.add(call.group(1) + " of " + arguments);
            check.holds(call.group(1) + " is an act or not", Calls.ACTS.contains(call.group(1)) == (call.group(3) != null));
        }
        Set<String> there = new TreeSet<>();
        for (Method method : RightsDesk.class.getDeclaredMethods()) {
            if (Modifier.isPublic(method.getModifiers())) {
                there.add(method.getName() + " of " + method.getParameterCount());
            }
        }
        check.holds("the calls are " + there + ", told are " + told, there.equals(told));
    }

    private static void tests(String page) throws IOException {
        check.at("tests");
        Set<String> told = new TreeSet<>();
        Matcher test = TEST.matcher(page);
        while (test.find()) {
            told.add(test.group(1) + ".java");
        }
        Set<String> there = new TreeSet<>();
        try (Stream<Path> files = Files.list(Path.of("src/test/java"))) {
            files.map(file -> file.getFileName().toString()).filter(name -> name.endsWith("Test.java")).forEach(there::add);
        }
        check.holds("the tests are " + there + ", told are " + told, there.equals(told));
    }

    private static void files(String page) {
        check.at("files");
        Matcher file = FILE.matcher(page);
        int found = 0;
        while (file.find()) {
            check.holds(file.group(1) + " is there", Files.exists(Path.of(file.group(1))));
            found++;
        }
        check.holds("files are named", found > 1);
    }
}
