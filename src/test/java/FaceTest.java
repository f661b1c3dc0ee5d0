import java.io.IOException;
import java.lang.reflect.Array;
import java.lang.reflect.Constructor;
import java.lang.reflect.Field;
import java.lang.reflect.Method;
import java.lang.reflect.Modifier;
import java.nio.file.Files;
import java.nio.file.Path;
import java.util.ArrayDeque;
import java.util.Arrays;
import java.util.Collections;
import java.util.Deque;
import java.util.IdentityHashMap;
import java.util.Set;
import java.util.TreeSet;

/** The public face, what can be seen from outside of the rules of LANGUAGE.md, and the room that an object takes. */
public final class FaceTest {
    private static final Check check = new Check();
    private static final Path SOURCE = Path.of("src/main/java/RightsDesk.java");
    private static final String[] METHODS = {
        "addDate(int,int,int,int,int)", "setStage(int,int,int)", "set(int,int)", "buy(int,int)", "buyOffered(int,int)",
        "cancel(int)", "offer(int,int)", "takeBack(int)", "exercise(int)", "await(int,int)", "leave(int,int)",
        "pass(int)", "type(char)", "clearText()", "perform()", "undo()", "keep()", "restore()", "date(int,int)",
        "waiting(int,int)", "right(int,int)", "holder(int,int)", "stage(int,int)", "priceIn(int,int)",
        "wouldCover(int)", "event(int,int)", "count(int)"};
    private static final String[] CONSTANTS = {"UNKNOWN", "BAD_VALUE", "FULL", "NOT_POSSIBLE", "NONE"};

    public static void main(String[] args) throws Exception {
        face();
        classesInside();
        words();
        lengths();
        room();
        check.close();
    }

    private static void face() {
        check.at("face");
        Class<?> desk = RightsDesk.class;
        check.due("modifiers", desk.getModifiers(), Modifier.PUBLIC | Modifier.FINAL);
        Set<String> names = new TreeSet<>();
        Set<String> methods = new TreeSet<>();
        for (Method method : desk.getDeclaredMethods()) {
            if (!Modifier.isPrivate(method.getModifiers())) {
                methods.add(signature(method));
                names.add(method.getName());
                check.due("modifiers of " + method, method.getModifiers(), Modifier.PUBLIC);
                check.holds(method + " answers an int", method.getReturnType() == int.class);
            }
        }
        check.holds("the methods are those of the document: " + methods, methods.equals(new TreeSet<>(Arrays.asList(METHODS))));
        for (Method method : desk.getDeclaredMethods()) {
            check.holds(method + " bears the name of a public one",
                    !Modifier.isPrivate(method.getModifiers()) || !names.contains(method.getName()));
        }
        Set<String> constants = new TreeSet<>();
        for (Field field : desk.getDeclaredFields()) {
            if (!Modifier.isPrivate(field.getModifiers())) {
                constants.add(field.getName());
                check.due("modifiers of " + field, field.getModifiers(), Modifier.PUBLIC | Modifier.STATIC | Modifier.FINAL);
            }
        }
        check.holds("the constants are those of the document", constants.equals(new TreeSet<>(Arrays.asList(CONSTANTS))));
        Constructor<?>[] constructors = desk.getDeclaredConstructors();
        check.due("constructors", constructors.length, 1);
        check.due("modifiers of the constructor", constructors[0].getModifiers(), Modifier.PUBLIC);
        check.due("parameters of the constructor", constructors[0].getParameterCount(), 0);
    }

    private static String signature(Method method) {
        StringBuilder all = new StringBuilder(method.getName()).append('(');
        for (Class<?> type : method.getParameterTypes()) {
            all.append(all.charAt(all.length() - 1) == '(' ? "" : ",").append(type.getName());
        }
        return all.append(')').toString();
    }

    private static void classesInside() {
        check.at("classes inside");
        Class<?>[] inside = RightsDesk.class.getDeclaredClasses();
        check.holds("the file has at most twelve classes", inside.length < 12);
        looseEnds(RightsDesk.class);
        for (Class<?> one : inside) {
            check.holds(one + " is static", Modifier.isStatic(one.getModifiers()));
            check.holds(one + " is not seen from outside", (one.getModifiers() & (Modifier.PUBLIC | Modifier.PROTECTED)) == 0);
            check.due("classes inside " + one, one.getDeclaredClasses().length, 0);
            looseEnds(one);
        }
    }

    private static void looseEnds(Class<?> one) {
        int fields = 0;
        for (Field field : one.getDeclaredFields()) {
            if (Modifier.isStatic(field.getModifiers())) {
                check.holds(field + " is final", Modifier.isFinal(field.getModifiers()));
            } else {
                fields++;
            }
        }
        check.holds(one + " has at most twenty fields", fields <= 20);
        for (Method method : one.getDeclaredMethods()) {
            check.holds(method + " takes at most seven parameters", method.getParameterCount() <= 7);
        }
    }

    private static String source() throws IOException {
        return Files.readString(SOURCE);
    }

    private static String bareSource() throws IOException {
        return source().replaceAll("(?s)/\\*.*?\\*/", " ").replaceAll("//[^\n]*", " ").replaceAll("'[^']'", "0");
    }

    private static void words() throws IOException {
        check.at("words");
        String bare = bareSource();
        String[] banned = {"throw", "throws", "try", "catch", "finally", "synchronized", "assert", "import", "package",
            "native", "volatile", "transient", "Object", "System", "Exception", "Thread", "Random", "hashCode", "toString",
            "protected", "var", "yield"};
        for (String word : banned) {
            check.holds("the word " + word, !bare.matches("(?s).*\\b" + word + "\\b.*"));
        }
        String[] signs = {"->", "::", "\"", "@", "Exact("};
        for (String sign : signs) {
            check.holds("the sign " + sign, !bare.contains(sign));
        }
        boolean plain = true;
        for (char sign : source().toCharArray()) {
            plain &= sign > 0 && sign < 128;
        }
        check.holds("signs from 1 to 127 alone", plain);
    }

    private static void lengths() throws IOException {
        check.at("lengths");
        String[] lines = source().split("\n");
        int methods = 0;
        for (int i = 0; i < lines.length; i++) {
            if (lines[i].matches(" {4}( {4})?[a-zA-Z].*\\) \\{")) {
                String end = lines[i].startsWith("        ") ? "        }" : "    }";
                int last = i;
                while (last < lines.length && !lines[last].equals(end)) {
                    last++;
                }
                methods++;
                check.holds("the method at line " + (i + 1) + " has more than sixty lines", last - i < 60);
            }
        }
        check.holds("methods were found", methods > 80);
    }

    private static Set<Object> reach(Object root) throws IllegalAccessException {
        Set<Object> found = Collections.newSetFromMap(new IdentityHashMap<>());
        Deque<Object> open = new ArrayDeque<>();
        open.push(root);
        while (!open.isEmpty()) {
            Object next = open.pop();
            if (!found.add(next)) {
                continue;
            }
            if (next instanceof Object[] row) {
                for (Object part : row) {
                    open.push(part);
                }
            } else if (!next.getClass().isArray()) {
                for (Field field : next.getClass().getDeclaredFields()) {
                    if (!Modifier.isStatic(field.getModifiers()) && !field.getType().isPrimitive()) {
                        field.setAccessible(true);
                        open.push(field.get(next));
                    }
                }
            }
        }
        return found;
    }

    private static int parts(Set<Object> objects) {
        int parts = 0;
        for (Object one : objects) {
            parts += one.getClass().isArray() ? Array.getLength(one) : one.getClass().getDeclaredFields().length;
        }
        return parts;
    }

    private static void room() throws IllegalAccessException {
        check.at("room");
        RightsDesk x = new RightsDesk();
        Set<Object> before = reach(x);
        int parts = parts(before);
        System.out.println("a new object is " + before.size() + " objects with " + parts + " fields and elements");
        check.holds("at most 1000 objects", before.size() <= 1000);
        check.holds("at most 10000 fields and elements", parts <= 10000);
        for (int i = 0; i < 10; i++) {
            x.addDate(20 + i, 5, 5, 100, i % 3);
            for (int holder = 0; holder < 8; holder++) {
                x.buy(holder, i);
                x.await(holder, i);
            }
            x.offer(i, 5);
            x.buyOffered(9, i);
            x.keep();
            x.cancel(i + 3);
            x.restore();
            Check.write(x, "b0@0;c1;x2;o3=4");
            x.perform();
            x.wouldCover(i);
            x.pass(1);
            x.undo();
        }
        x.pass(60);
        check.holds("calls make nothing that is kept", before.equals(reach(x)));
    }
}
