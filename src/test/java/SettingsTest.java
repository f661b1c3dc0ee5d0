/** Promises 1 to 4: a new object, addDate, setStage, set. */
public final class SettingsTest {
    private static final Check check = new Check();

    public static void main(String[] args) {
        aNewObject();
        constants();
        addDate();
        addDateEdges();
        addDateWhenFull();
        setStage();
        setStageEdges();
        set();
        setEdges();
        check.close();
    }

    private static void aNewObject() {
        check.at("promise 1");
        RightsDesk x = new RightsDesk();
        int[] counts = {0, 0, 0, 0, 0, 0, 0, 0, 0, 1000000000, 3, 10, 20, 500, 0, 0};
        for (int what = 0; what < counts.length; what++) {
            check.due("count(" + what + ")", x.count(what), counts[what]);
        }
        int[] days = {30, 14, 7, 0};
        int[] fees = {10, 30, 60, 100};
        for (int stage = 0; stage < 4; stage++) {
            check.due("stage(" + stage + ", 0)", x.stage(stage, 0), days[stage]);
            check.due("stage(" + stage + ", 1)", x.stage(stage, 1), fees[stage]);
        }
        for (int holder = 0; holder < 10; holder++) {
            check.due("holder(" + holder + ", 0)", x.holder(holder, 0), 1000000000);
            check.due("holder(" + holder + ", 1)", x.holder(holder, 1), 0);
        }
        check.due("date(0, 0)", x.date(0, 0), -1);
        check.due("right(0, 0)", x.right(0, 0), -1);
        check.due("event(0, 0)", x.event(0, 0), -5);
        check.due("clearText()", x.clearText(), 0);
        check.due("undo()", x.undo(), -5);
        check.due("restore()", x.restore(), -5);
        check.due("perform()", x.perform(), -100);
        RightsDesk y = new RightsDesk();
        x.addDate(5, 1, 0, 10, 0);
        x.set(3, 7);
        x.setStage(0, 40, 4);
        check.due("another object's count(1)", y.count(1), 0);
        check.due("another object's count(13)", y.count(13), 500);
        check.due("another object's stage(0, 0)", y.stage(0, 0), 30);
    }

    private static void constants() {
        check.at("constants");
        check.due("UNKNOWN", RightsDesk.UNKNOWN, -1);
        check.due("BAD_VALUE", RightsDesk.BAD_VALUE, -2);
        check.due("FULL", RightsDesk.FULL, -3);
        check.due("NOT_POSSIBLE", RightsDesk.NOT_POSSIBLE, -4);
        check.due("NONE", RightsDesk.NONE, -5);
    }

    private static void addDate() {
        check.at("promise 2");
        RightsDesk x = new RightsDesk();
        check.due("addDate(12, 7, 2, 345, 1)", x.addDate(12, 7, 2, 345, 1), 0);
        check.due("addDate(13, 8, 3, 346, 2)", x.addDate(13, 8, 3, 346, 2), 1);
        int[] first = {12, 7, 2, 345, 1};
        int[] second = {13, 8, 3, 346, 2};
        for (int what = 0; what < 5; what++) {
            check.due("date(0, " + what + ")", x.date(0, what), first[what]);
            check.due("date(1, " + what + ")", x.date(1, what), second[what]);
        }
        check.due("count(1)", x.count(1), 2);
        check.due("count(14)", x.count(14), 2);
        check.due("undo()", x.undo(), 1);
        check.due("count(1) after undo", x.count(1), 1);
        check.due("addDate again", x.addDate(20, 1, 0, 1, 0), 1);
        check.due("date(1, 0)", x.date(1, 0), 20);
        check.due("two dates on one day", x.addDate(20, 1, 0, 1, 0), 2);
        x.pass(5);
        check.due("addDate(5, ..) on the day 5", x.addDate(5, 1, 0, 1, 0), -2);
        check.due("addDate(6, ..) on the day 5", x.addDate(6, 1, 0, 1, 0), 3);
    }

    private static void addDateEdges() {
        check.at("promise 2, edges");
        RightsDesk x = new RightsDesk();
        int[][] bad = {
            {0, 1, 0, 1, 0}, {-1, 1, 0, 1, 0}, {1000, 1, 0, 1, 0}, {Integer.MIN_VALUE, 1, 0, 1, 0},
            {Integer.MAX_VALUE, 1, 0, 1, 0},
            {1, 0, 0, 1, 0}, {1, -1, 0, 1, 0}, {1, 21, 0, 1, 0}, {1, Integer.MAX_VALUE, 0, 1, 0},
            {1, 1, -1, 1, 0}, {1, 1, 6, 1, 0}, {1, 1, Integer.MIN_VALUE, 1, 0},
            {1, 1, 0, 0, 0}, {1, 1, 0, -1, 0}, {1, 1, 0, 10000, 0},
            {1, 1, 0, 1, -1}, {1, 1, 0, 1, 3}, {1, 1, 0, 1, Integer.MAX_VALUE}};
        for (int[] row : bad) {
            check.due("addDate(" + java.util.Arrays.toString(row) + ")",
                    x.addDate(row[0], row[1], row[2], row[3], row[4]), -2);
        }
        check.due("count(1)", x.count(1), 0);
        check.due("count(14)", x.count(14), 0);
        check.due("the least values", x.addDate(1, 1, 0, 1, 0), 0);
        check.due("the greatest values", x.addDate(999, 20, 5, 9999, 2), 1);
        check.due("count(14)", x.count(14), 2);
    }

    private static void addDateWhenFull() {
        check.at("promise 2, full");
        RightsDesk x = new RightsDesk();
        for (int i = 0; i < 10; i++) {
            check.due("addDate " + i, x.addDate(i + 1, 1, 0, 1, 0), i);
        }
        x.clearText();
        x.undo();
        check.due("the tenth again", x.addDate(50, 1, 0, 1, 0), 9);
        check.due("count(14)", x.count(14), 4);
        check.due("the eleventh", x.addDate(50, 1, 0, 1, 0), -3);
        check.due("the eleventh, with a bad value", x.addDate(50, 1, 0, 1, 3), -2);
        check.due("count(1)", x.count(1), 10);
        x.pass(60);
        check.due("the eleventh, when all are over", x.addDate(70, 1, 0, 1, 0), -3);
    }

    private static void setStage() {
        check.at("promise 3");
        RightsDesk x = new RightsDesk();
        check.due("setStage(1, 20, 35)", x.setStage(1, 20, 35), 30);
        check.due("stage(1, 0)", x.stage(1, 0), 20);
        check.due("stage(1, 1)", x.stage(1, 1), 35);
        check.due("setStage(1, 20, 35) again", x.setStage(1, 20, 35), -5);
        check.due("count(14)", x.count(14), 1);
        check.due("other days, the same fee", x.setStage(1, 21, 35), 35);
        check.due("the same days, another fee", x.setStage(1, 21, 0), 35);
        check.due("a fee that was 0", x.setStage(1, 21, 1), 0);
        check.due("count(14)", x.count(14), 4);
        check.due("undo()", x.undo(), 3);
        check.due("stage(1, 1) after undo", x.stage(1, 1), 0);
        check.due("stage(1, 0) after undo", x.stage(1, 0), 21);
    }

    private static void setStageEdges() {
        check.at("promise 3, edges");
        RightsDesk x = new RightsDesk();
        check.due("setStage(-1, ..)", x.setStage(-1, 0, 0), -1);
        check.due("setStage(4, ..)", x.setStage(4, 0, 0), -1);
        check.due("setStage(4, -1, 101)", x.setStage(4, -1, 101), -1);
        check.due("setStage(MIN, ..)", x.setStage(Integer.MIN_VALUE, 0, 0), -1);
        check.due("setStage(MAX, ..)", x.setStage(Integer.MAX_VALUE, 0, 0), -1);
        check.due("setStage(0, 100, 10)", x.setStage(0, 100, 10), -2);
        check.due("setStage(0, 14, 10)", x.setStage(0, 14, 10), -2);
        check.due("setStage(0, -1, 10)", x.setStage(0, -1, 10), -2);
        check.due("setStage(1, 30, 30)", x.setStage(1, 30, 30), -2);
        check.due("setStage(1, 7, 30)", x.setStage(1, 7, 30), -2);
        check.due("setStage(2, 14, 60)", x.setStage(2, 14, 60), -2);
        check.due("setStage(2, 0, 60)", x.setStage(2, 0, 60), -2);
        check.due("setStage(3, 1, 100)", x.setStage(3, 1, 100), -2);
        check.due("setStage(3, -1, 100)", x.setStage(3, -1, 100), -2);
        check.due("setStage(0, 30, -1)", x.setStage(0, 30, -1), -2);
        check.due("setStage(0, 30, 101)", x.setStage(0, 30, 101), -2);
        check.due("count(14)", x.count(14), 0);
        check.due("setStage(0, 99, 0)", x.setStage(0, 99, 0), 10);
        check.due("setStage(1, 98, 100)", x.setStage(1, 98, 100), 30);
        check.due("setStage(2, 1, 60)", x.setStage(2, 1, 60), 60);
        check.due("setStage(1, 2, 100)", x.setStage(1, 2, 100), 100);
        check.due("setStage(0, 3, 100)", x.setStage(0, 3, 100), 0);
        check.due("setStage(3, 0, 100)", x.setStage(3, 0, 100), -5);
        check.due("setStage(3, 0, 0)", x.setStage(3, 0, 0), 100);
    }

    private static void set() {
        check.at("promise 4");
        RightsDesk x = new RightsDesk();
        check.due("set(0, 5)", x.set(0, 5), 3);
        check.due("set(1, 25)", x.set(1, 25), 10);
        check.due("set(2, 30)", x.set(2, 30), 20);
        check.due("set(3, 700)", x.set(3, 700), 500);
        int[] numbers = {5, 25, 30, 700};
        for (int what = 0; what < 4; what++) {
            check.due("count(" + (10 + what) + ")", x.count(10 + what), numbers[what]);
            check.due("set again", x.set(what, numbers[what]), -5);
        }
        check.due("count(14)", x.count(14), 4);
        check.due("undo()", x.undo(), 3);
        check.due("count(13)", x.count(13), 500);
        check.due("set(3, 0)", x.set(3, 0), 500);
        check.due("set(3, 1)", x.set(3, 1), 0);
    }

    private static void setEdges() {
        check.at("promise 4, edges");
        RightsDesk x = new RightsDesk();
        int[][] bad = {{-1, 1}, {4, 1}, {Integer.MIN_VALUE, 1}, {Integer.MAX_VALUE, 1},
            {0, -1}, {0, 10}, {1, -1}, {1, 51}, {2, 0}, {2, 61}, {3, -1}, {3, 10000},
            {0, Integer.MIN_VALUE}, {3, Integer.MAX_VALUE}};
        for (int[] row : bad) {
            check.due("set(" + row[0] + ", " + row[1] + ")", x.set(row[0], row[1]), -2);
        }
        check.due("count(14)", x.count(14), 0);
        int[][] good = {{0, 0, 3}, {0, 9, 0}, {1, 0, 10}, {1, 50, 0}, {2, 1, 20}, {2, 60, 1}, {3, 0, 500},
            {3, 9999, 0}};
        for (int[] row : good) {
            check.due("set(" + row[0] + ", " + row[1] + ")", x.set(row[0], row[1]), row[2]);
        }
    }
}
