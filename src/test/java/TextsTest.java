/** Promises 14 to 16: type, clearText, perform. */
public final class TextsTest {
    private static final Check check = new Check();
    private static final int MORE = 1000000000;

    public static void main(String[] args) {
        type();
        clearText();
        faults();
        faultsOfEverySign();
        noFaults();
        performEachKind();
        performAllOrNone();
        performErrors();
        performIsOneAct();
        performAtTheLimits();
        check.close();
    }

    private static int performed(RightsDesk x, String text) {
        Check.write(x, text);
        return x.perform();
    }

    private static void type() {
        check.at("promise 14");
        RightsDesk x = new RightsDesk();
        char[] signs = {'b', (char) 0, (char) 255, (char) 256, Character.MAX_VALUE, ' ', ';'};
        for (int i = 0; i < signs.length; i++) {
            check.due("type((char) " + (int) signs[i] + ")", x.type(signs[i]), i + 1);
        }
        for (int i = signs.length; i < 60; i++) {
            check.due("type('1')", x.type('1'), i + 1);
        }
        check.due("the 61st", x.type('1'), -3);
        check.due("the 62nd", x.type('1'), -3);
        check.due("count(15)", x.count(15), 60);
        check.due("count(14), no act", x.count(14), 0);
        check.due("undo()", x.undo(), -5);
        check.due("count(15)", x.count(15), 60);
    }

    private static void clearText() {
        check.at("promise 15");
        RightsDesk x = new RightsDesk();
        check.due("clearText()", x.clearText(), 0);
        Check.write(x, "b0@0");
        check.due("count(15)", x.count(15), 4);
        check.due("clearText()", x.clearText(), 4);
        check.due("count(15)", x.count(15), 0);
        check.due("clearText()", x.clearText(), 0);
        check.due("count(14), no act", x.count(14), 0);
        check.due("perform()", x.perform(), -100);
        check.due("type('c')", x.type('c'), 1);
        check.due("what stood there is gone", x.perform(), -101);
    }

    private static void faults() {
        check.at("promise 16, faults");
        String[] texts = {"", "b", "b0", "b0@", "m", "m0", "m0@", "c", "x", "o", "o0", "o0=", "o10", "o10=",
            "c0;", "b0@0;", "o0=1;", "o0=10;", "c0;x", "c0;o1=", "x10;"};
        for (String text : texts) {
            fault(text, text.length());
        }
        String[] marked = {"|q", "|B", "| c0", "|;c0", "|0", "|=", "|@", "b|@", "b|a", "b0|0", "b0|;", "b0@|;",
            "b0@|@", "b0@0|0", "b0@0|c0", "b0@0;|;", "b0@0;|0", "m1|1@0", "m0@0|,", "c|c", "c|=", "c|;", "c0|0", "c0|1",
            "c0|=1", "c12|3", "c10|@", "x0|9", "x99|9", "x9|x", "o|=", "o0|0=1", "o0|;", "o0|@", "o0=|0", "o0=|=",
            "o0=|;", "o0=1|=", "o0=12345|6", "o0=1|c", "o10|0=1", "c0;c1;|C2", "c0|\u00b2", "c|\u0661", "c0;b1@|\u0660"};
        for (String mark : marked) {
            fault(mark.replace("|", ""), mark.indexOf('|'));
        }
        StringBuilder full = new StringBuilder("c0");
        while (full.length() < 60) {
            full.append(";c0");
        }
        full.setLength(60);
        fault(full.toString(), 60);
        full.setCharAt(59, '!');
        fault(full.toString(), 59);
    }

    private static void fault(String text, int due) {
        RightsDesk x = new RightsDesk();
        x.addDate(20, 5, 0, 100, 0);
        x.buy(0, 0);
        check.due("perform() of \"" + text + "\"", performed(x, text), -100 - due);
        check.due("count(14)", x.count(14), 2);
        check.due("count(2)", x.count(2), 1);
        check.due("right(0, 3)", x.right(0, 3), 0);
        check.due("count(15)", x.count(15), text.length());
    }

    /** At each place of a row of orders, each sign of the first 256 but those allowed there is the fault. */
    private static void faultsOfEverySign() {
        check.at("promise 16, every sign");
        String row = "b3@4;c12;o7=50;x0";
        String[] allowed = {"bmcxo", "0-9", "@", "0-9", ";", "bmcxo", "0-9", "0-9;", ";", "bmcxo", "0-9", "0-9=", "0-9",
            "0-9;", ";0-9", "bmcxo", "0-9", ";"};
        for (int at = 0; at < allowed.length; at++) {
            String signs = allowed[at].replace("0-9", "0123456789");
            if (at == 12) {
                signs = signs.replace("0", "");
            }
            RightsDesk x = new RightsDesk();
            int calls = 0;
            for (int sign = 0; sign < 256; sign++) {
                if (signs.indexOf((char) sign) >= 0) {
                    continue;
                }
                if (calls + 20 > 500) {
                    x = new RightsDesk();
                    calls = 0;
                }
                calls += at + 3;
                check.due("sign " + sign + " at " + at, performed(x, row.substring(0, at) + (char) sign), -100 - at);
            }
            for (int i = 0; i < signs.length(); i++) {
                RightsDesk y = new RightsDesk();
                int answer = performed(y, row.substring(0, at) + signs.charAt(i));
                check.holds("sign " + signs.charAt(i) + " is allowed at " + at, answer != -100 - at);
            }
        }
    }

    private static void noFaults() {
        check.at("promise 16, no faults");
        String[] texts = {"b0@0", "b9@9", "m0@0", "c0", "c9", "c10", "c99", "x0", "x59", "o0=1", "o99=99999", "o0=100",
            "o9=9;o90=12345", "b0@0;m9@9;c0;x1;o1=5"};
        for (String text : texts) {
            RightsDesk x = new RightsDesk();
            check.due("perform() of \"" + text + "\"", performed(x, text), -1);
        }
    }

    private static void performEachKind() {
        check.at("promise 16, each kind");
        RightsDesk x = new RightsDesk();
        x.addDate(20, 20, 0, 100, 0);
        x.addDate(30, 20, 0, 100, 0);
        check.due("b", performed(x, "b3@1"), 1);
        check.due("right(0, 0)", x.right(0, 0), 1);
        check.due("right(0, 1)", x.right(0, 1), 3);
        check.due("o", performed(x, "o0=120"), 1);
        check.due("right(0, 4)", x.right(0, 4), 120);
        check.due("m", performed(x, "m5@1"), 1);
        check.due("right(0, 1)", x.right(0, 1), 5);
        check.due("holder(5, 0)", x.holder(5, 0), MORE - 120);
        check.due("eleven", performed(x, "b0@0;b1@0;b2@0;b3@0;b4@0;b5@0;b6@0;b7@0;b8@0;b9@0;b7@0"), 11);
        check.due("count(15)", x.count(15), 54);
        check.due("right(11, 1)", x.right(11, 1), 7);
        check.due("c", performed(x, "c11"), 1);
        check.due("right(11, 3)", x.right(11, 3), 3);
        check.due("right(1, 3)", x.right(1, 3), 0);
        check.due("x", performed(x, "x10"), 1);
        check.due("right(10, 3)", x.right(10, 3), 2);
        check.due("x and c", performed(x, "x1;c2"), 2);
        check.due("right(1, 3)", x.right(1, 3), 2);
        check.due("right(2, 3)", x.right(2, 3), 3);
        check.due("the text stays", x.count(15), 5);
    }

    private static void performAllOrNone() {
        check.at("promise 16, all or none");
        RightsDesk x = new RightsDesk();
        x.addDate(40, 2, 0, 100, 1);
        x.buy(0, 0);
        x.buy(1, 0);
        x.await(7, 0);
        x.pass(1);
        check.due("count(14)", x.count(14), 4);
        check.due("perform()", performed(x, "c0;o1=50;m3@0;c0"), -4);
        check.due("count(14)", x.count(14), 4);
        check.due("count(2)", x.count(2), 2);
        check.due("right(0, 3)", x.right(0, 3), 0);
        check.due("right(1, 3)", x.right(1, 3), 0);
        check.due("right(1, 1)", x.right(1, 1), 1);
        check.due("right(1, 6)", x.right(1, 6), 0);
        check.due("waiting(0, 0)", x.waiting(0, 0), 7);
        check.due("holder(0, 0)", x.holder(0, 0), MORE - 100);
        check.due("holder(7, 0)", x.holder(7, 0), MORE);
        check.due("count(9)", x.count(9), MORE + 250);
        check.due("event(0, 0)", x.event(0, 0), 0);
        check.due("event(0, 1)", x.event(0, 1), 1);
        check.due("event(2, 0)", x.event(2, 0), -5);
        check.due("perform() without the fault", performed(x, "c0;o1=50;m3@0;c2"), 4);
        check.due("right(0, 3)", x.right(0, 3), 3);
        check.due("right(1, 1)", x.right(1, 1), 3);
        check.due("right(2, 1)", x.right(2, 1), 7);
        check.due("right(2, 3)", x.right(2, 3), 3);
        check.due("a fault behind orders that could be done", performed(x, "b5@0;b"), -106);
        check.due("count(2)", x.count(2), 3);
    }

    private static void performErrors() {
        check.at("promise 16, errors");
        RightsDesk x = new RightsDesk();
        x.addDate(20, 2, 0, 100, 0);
        x.addDate(1, 2, 0, 100, 0);
        x.buy(0, 0);
        x.pass(1);
        check.due("b, UNKNOWN", performed(x, "b0@2"), -1);
        check.due("b, NOT_POSSIBLE", performed(x, "b0@1"), -4);
        check.due("b, FULL at its turn", performed(x, "b0@0;b0@0"), -3);
        check.due("m, UNKNOWN", performed(x, "m0@2"), -1);
        check.due("m, NOT_POSSIBLE", performed(x, "m0@0"), -4);
        check.due("m, its own", performed(x, "o0=5;m0@0"), -4);
        check.due("c, UNKNOWN", performed(x, "c1"), -1);
        check.due("c, NOT_POSSIBLE", performed(x, "c0;c0"), -4);
        check.due("x, UNKNOWN", performed(x, "x1"), -1);
        check.due("x, NOT_POSSIBLE", performed(x, "o0=5;x0"), -4);
        check.due("o, UNKNOWN", performed(x, "o1=5"), -1);
        check.due("o, BAD_VALUE", performed(x, "o0=201"), -2);
        check.due("o, BAD_VALUE", performed(x, "o0=99999"), -2);
        check.due("o, NOT_POSSIBLE", performed(x, "x0;o0=5"), -4);
        check.due("o, NONE", performed(x, "o0=5;o0=5"), -5);
        check.due("the first error", performed(x, "o0=201;c9;c0;c0"), -2);
        check.due("the first error, another one", performed(x, "c9;o0=201"), -1);
        check.due("count(14)", x.count(14), 4);
        check.due("right(0, 3)", x.right(0, 3), 0);
        check.due("count(2)", x.count(2), 1);
        String[] late = {"o0=7;b0@2", "o0=7;o0=201", "o0=7;b0@0;b0@0", "o0=7;x0", "o0=7;o0=7"};
        int[] due = {-1, -2, -3, -4, -5};
        for (int i = 0; i < late.length; i++) {
            check.due(late[i], performed(x, late[i]), due[i]);
            check.due("right(0, 4) after " + late[i], x.right(0, 4), -5);
            check.due("event(0, 0) after " + late[i], x.event(0, 0), 0);
            check.due("count(2) after " + late[i], x.count(2), 1);
        }
    }

    private static void performIsOneAct() {
        check.at("promise 16, one act");
        RightsDesk x = new RightsDesk();
        x.addDate(20, 9, 0, 100, 0);
        check.due("perform()", performed(x, "b1@0;b2@0;b3@0;b4@0;b5@0"), 5);
        check.due("count(14)", x.count(14), 2);
        check.due("perform() again, the text stayed", x.perform(), -3);
        check.due("count(14)", x.count(14), 2);
        check.due("undo()", x.undo(), 1);
        check.due("count(2)", x.count(2), 0);
        check.due("the text stays in undo()", x.count(15), 24);
        check.due("perform()", x.perform(), 5);
        check.due("count(2)", x.count(2), 5);
    }

    private static void performAtTheLimits() {
        check.at("promise 16, limits");
        RightsDesk x = new RightsDesk();
        for (int i = 0; i < 3; i++) {
            x.addDate(50, 20, 0, 100, 0);
        }
        String twelve = "b0@0;b0@0;b0@0;b0@0;b0@0;b0@0;b0@0;b0@0;b0@0;b0@0;b0@0;b0@0";
        check.due("twelve of four signs", performed(x, twelve), 12);
        check.due("count(15)", x.count(15), 59);
        check.due("eight more", performed(x, twelve.substring(0, 39)), 8);
        check.due("twelve for another date", performed(x, twelve.replace("@0", "@1")), 12);
        check.due("ten of two signs", performed(x, "c0;c1;c2;c3;c4;c5;c6;c7;c8;c9"), 10);
        check.due("fifteen of three signs",
                performed(x, "c10;c11;c12;c13;c14;c15;c16;c17;c18;c19;c20;c21;c22;c23;c24"), 15);
        check.due("count(6)", x.count(6), 25);
        check.due("twenty of two signs are read",
                performed(x, "x0;x0;x0;x0;x0;x0;x0;x0;x0;x0;x0;x0;x0;x0;x0;x0;x0;x0;x0;x0"), -4);
        check.due("count(15)", x.count(15), 59);
        RightsDesk y = new RightsDesk();
        y.addDate(50, 20, 0, 9999, 0);
        y.buy(0, 0);
        check.due("eleven changes of a price",
                performed(y, "o0=1;o0=2;o0=3;o0=4;o0=5;o0=6;o0=7;o0=8;o0=9;o0=10;o0=19998"), 11);
        check.due("right(0, 4)", y.right(0, 4), 19998);
    }
}
