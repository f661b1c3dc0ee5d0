/** Promises 20 to 28: date, waiting, right, holder, stage, priceIn, wouldCover, event, count. */
public final class TellingTest {
    private static final Check check = new Check();
    private static final int MORE = 1000000000;
    private static final int MIN = Integer.MIN_VALUE;
    private static final int MAX = Integer.MAX_VALUE;

    public static void main(String[] args) {
        date();
        dateOver();
        dateErrors();
        dateStages();
        waiting();
        right();
        rightErrors();
        rightToBeExercised();
        holder();
        stage();
        priceIn();
        priceInErrors();
        wouldCover();
        wouldCoverErrors();
        event();
        eventsOfEachKind();
        count();
        sumOfAccounts();
        check.close();
    }

    private static void dateTold(RightsDesk x, int date, int... due) {
        for (int what = 0; what < due.length; what++) {
            check.due("date(" + date + ", " + what + ")", x.date(date, what), due[what]);
        }
    }

    private static void date() {
        check.at("promise 20");
        RightsDesk x = new RightsDesk();
        x.addDate(999, 20, 5, 9999, 0);
        x.addDate(25, 4, 2, 300, 1);
        x.addDate(25, 1, 0, 301, 2);
        dateTold(x, 0, 999, 20, 5, 9999, 0, 999, 0, 0, 0, 9999, 25, 0, 0, -5);
        dateTold(x, 1, 25, 4, 2, 300, 1, 25, 0, 0, 0, 300, 6, 1, 0, -5);
        dateTold(x, 2, 25, 1, 0, 301, 2, 25, 0, 0, 0, 331, 1, 1, 0, -5);
        for (int i = 0; i < 5; i++) {
            x.buy(i, 1);
        }
        x.pass(6);
        x.exercise(0);
        x.offer(1, 310);
        x.offer(2, 305);
        x.cancel(3);
        x.await(9, 1);
        x.await(8, 1);
        dateTold(x, 1, 25, 4, 2, 300, 1, 19, 4, 1, 2, 600, 2, 1, 2, 305);
        dateTold(x, 2, 25, 1, 0, 301, 2, 19, 0, 0, 0, 367, 1, 1, 0, -5);
    }

    private static void dateOver() {
        check.at("promise 20, over");
        RightsDesk x = new RightsDesk();
        x.addDate(5, 4, 2, 300, 1);
        x.addDate(5, 4, 2, 300, 2);
        x.buy(0, 0);
        x.buy(0, 0);
        x.buy(0, 0);
        x.exercise(0);
        x.offer(1, 300);
        x.await(4, 1);
        x.pass(4);
        dateTold(x, 0, 5, 4, 2, 300, 1, 1, 3, 1, 1, 525, 1, 3, 0, 300);
        x.pass(1);
        dateTold(x, 0, 5, 4, 2, 300, 1, 0, 1, 1, 0, 375, 0, -5, 0, -5);
        dateTold(x, 1, 5, 4, 2, 300, 2, 0, 0, 0, 0, 480, 0, -5, 0, -5);
        x.pass(45);
        dateTold(x, 1, 5, 4, 2, 300, 2, 0, 0, 0, 0, 300 * 250 / 100, 0, -5, 0, -5);
        RightsDesk y = new RightsDesk();
        y.addDate(1, 1, 0, 9999, 2);
        for (int i = 0; i < 166; i++) {
            y.pass(60);
        }
        y.pass(39);
        check.due("the greatest price", y.date(0, 9), 9999 * 20156 / 100);
    }

    private static void dateErrors() {
        check.at("promise 20, errors");
        RightsDesk x = new RightsDesk();
        x.addDate(5, 4, 2, 300, 1);
        int[][] rows = {{-1, 0, -1}, {1, 0, -1}, {1, 14, -1}, {MIN, 0, -1}, {MAX, 0, -1}, {10, 0, -1},
            {0, -1, -2}, {0, 14, -2}, {0, MIN, -2}, {0, MAX, -2}};
        for (int[] row : rows) {
            check.due("date(" + row[0] + ", " + row[1] + ")", x.date(row[0], row[1]), row[2]);
        }
    }

    private static void dateStages() {
        check.at("promise 20, stages");
        int[][] due = {{31, 0}, {30, 0}, {29, 1}, {14, 1}, {13, 2}, {7, 2}, {6, 3}, {1, 3}};
        for (int[] row : due) {
            RightsDesk x = new RightsDesk();
            x.addDate(row[0], 1, 0, 1, 0);
            check.due("date(0, 11), days left " + row[0], x.date(0, 11), row[1]);
        }
    }

    private static void waiting() {
        check.at("promise 21");
        RightsDesk x = new RightsDesk();
        x.addDate(5, 4, 2, 300, 1);
        for (int i = 0; i < 6; i++) {
            check.due("waiting(0, " + i + ")", x.waiting(0, i), -5);
            x.await(9 - i, 0);
            check.due("waiting(0, " + i + ")", x.waiting(0, i), 9 - i);
        }
        check.due("waiting(0, 6)", x.waiting(0, 6), -5);
        check.due("waiting(0, MAX)", x.waiting(0, MAX), -5);
        check.due("waiting(0, -1)", x.waiting(0, -1), -2);
        check.due("waiting(0, MIN)", x.waiting(0, MIN), -2);
        check.due("waiting(1, 0)", x.waiting(1, 0), -1);
        check.due("waiting(-1, -1)", x.waiting(-1, -1), -1);
        check.due("waiting(10, 0)", x.waiting(10, 0), -1);
        x.leave(9, 0);
        check.due("waiting(0, 5)", x.waiting(0, 5), -5);
        check.due("waiting(0, 4)", x.waiting(0, 4), 4);
    }

    private static void rightTold(RightsDesk x, int right, int... due) {
        for (int what = 0; what < due.length; what++) {
            check.due("right(" + right + ", " + what + ")", x.right(right, what), due[what]);
        }
    }

    private static void right() {
        check.at("promise 22");
        RightsDesk x = new RightsDesk();
        x.addDate(90, 4, 2, 500, 0);
        x.addDate(29, 4, 2, 300, 1);
        x.pass(1);
        x.buy(4, 1);
        x.pass(1);
        x.buy(5, 1);
        x.buy(6, 1);
        rightTold(x, 0, 1, 4, 300, 0, -5, 1, 0, 210, 0);
        rightTold(x, 1, 1, 5, 375, 0, -5, 2, 0, 375 - 112, 0);
        x.offer(1, 400);
        rightTold(x, 1, 1, 5, 375, 1, 400, 2, 0, 263, 0);
        x.buyOffered(7, 1);
        rightTold(x, 1, 1, 7, 375, 0, -5, 2, 1, 263, 0);
        x.pass(7);
        rightTold(x, 1, 1, 7, 375, 0, -5, 2, 1, 263, 1);
        x.offer(0, 1);
        rightTold(x, 0, 1, 4, 300, 1, 1, 1, 0, 210, 0);
        x.exercise(1);
        rightTold(x, 1, 1, 7, 375, 2, -5, 2, 1, -5, 0);
        x.cancel(0);
        rightTold(x, 0, 1, 4, 300, 3, -5, 1, 0, -5, 0);
        rightTold(x, 2, 1, 6, 450, 0, -5, 2, 0, 315, 1);
        x.pass(19);
        rightTold(x, 2, 1, 6, 450, 0, -5, 2, 0, 0, 1);
        x.pass(1);
        rightTold(x, 2, 1, 6, 450, 5, -5, 2, 0, -5, 0);
        RightsDesk y = new RightsDesk();
        y.addDate(9, 1, 1, 50, 0);
        y.buy(1, 0);
        y.buy(2, 0);
        y.offer(1, 60);
        y.pass(6);
        rightTold(y, 1, 0, 2, 50, 4, -5, 0, 0, -5, 0);
        rightTold(y, 0, 0, 1, 50, 0, -5, 0, 0, 0, 1);
    }

    private static void rightErrors() {
        check.at("promise 22, errors");
        RightsDesk x = new RightsDesk();
        x.addDate(90, 4, 2, 500, 0);
        x.buy(0, 0);
        int[][] rows = {{-1, 0, -1}, {1, 0, -1}, {1, 9, -1}, {60, 0, -1}, {MIN, 0, -1}, {MAX, 0, -1},
            {0, -1, -2}, {0, 9, -2}, {0, MIN, -2}, {0, MAX, -2}};
        for (int[] row : rows) {
            check.due("right(" + row[0] + ", " + row[1] + ")", x.right(row[0], row[1]), row[2]);
        }
    }

    private static void rightToBeExercised() {
        check.at("promise 22, to be exercised");
        RightsDesk x = new RightsDesk();
        x.addDate(21, 1, 1, 100, 0);
        x.buy(0, 0);
        x.buy(1, 0);
        check.due("21 days left", x.right(0, 8), 0);
        x.pass(1);
        check.due("20 days left", x.right(0, 8), 1);
        check.due("20 days left", x.right(1, 8), 1);
        x.exercise(1);
        check.due("all places taken", x.right(0, 8), 0);
        check.due("exercised", x.right(1, 8), 0);
    }

    private static void holder() {
        check.at("promise 23");
        RightsDesk x = new RightsDesk();
        x.addDate(20, 3, 2, 100, 0);
        x.addDate(20, 3, 2, 100, 0);
        x.buy(9, 0);
        x.buy(9, 1);
        x.buy(9, 1);
        x.buy(9, 1);
        x.buy(8, 1);
        x.offer(1, 5);
        x.exercise(2);
        x.cancel(3);
        x.await(9, 0);
        x.await(9, 1);
        x.await(8, 1);
        int[] nine = {MORE - 900 + 70, 2, 1, 2};
        int[] eight = {MORE - 100, 1, 0, 1};
        int[] zero = {MORE, 0, 0, 0};
        for (int what = 0; what < 4; what++) {
            check.due("holder(9, " + what + ")", x.holder(9, what), nine[what]);
            check.due("holder(8, " + what + ")", x.holder(8, what), eight[what]);
            check.due("holder(0, " + what + ")", x.holder(0, what), zero[what]);
        }
        x.set(0, 9);
        x.pass(20);
        check.due("lapsed ones are not held", x.holder(9, 1), 0);
        check.due("exercised ones stay", x.holder(9, 2), 1);
        check.due("lists of dates that are over", x.holder(9, 3), 0);
        int[][] rows = {{-1, 0, -1}, {10, 0, -1}, {10, 4, -1}, {MIN, 0, -1}, {MAX, 0, -1},
            {0, -1, -2}, {0, 4, -2}, {9, MIN, -2}, {9, MAX, -2}};
        for (int[] row : rows) {
            check.due("holder(" + row[0] + ", " + row[1] + ")", x.holder(row[0], row[1]), row[2]);
        }
    }

    private static void stage() {
        check.at("promise 24");
        RightsDesk x = new RightsDesk();
        check.due("stage(0, 0)", x.stage(0, 0), 30);
        check.due("stage(2, 0)", x.stage(2, 0), 7);
        check.due("stage(3, 0)", x.stage(3, 0), 0);
        check.due("stage(3, 1)", x.stage(3, 1), 100);
        x.setStage(2, 5, 44);
        check.due("stage(2, 0)", x.stage(2, 0), 5);
        check.due("stage(2, 1)", x.stage(2, 1), 44);
        int[][] rows = {{-1, 0, -1}, {4, 0, -1}, {4, 2, -1}, {MIN, 0, -1}, {MAX, 0, -1},
            {0, -1, -2}, {3, 2, -2}, {0, MIN, -2}, {0, MAX, -2}};
        for (int[] row : rows) {
            check.due("stage(" + row[0] + ", " + row[1] + ")", x.stage(row[0], row[1]), row[2]);
        }
    }

    private static void priceIn() {
        check.at("promise 25");
        RightsDesk x = new RightsDesk();
        x.addDate(61, 5, 0, 333, 0);
        x.addDate(61, 7, 5, 333, 1);
        x.addDate(61, 5, 0, 333, 2);
        for (int i = 0; i < 10; i++) {
            x.buy(0, 1);
        }
        x.await(3, 2);
        check.due("rule 0", x.priceIn(0, 60), 333);
        check.due("rule 1", x.priceIn(1, 0), 333 + 475);
        check.due("rule 1, nothing is covered", x.priceIn(1, 60), 333 + 475);
        check.due("rule 2, 61 days left", x.priceIn(2, 0), 333);
        check.due("rule 2, 30 days left", x.priceIn(2, 31), 333);
        check.due("rule 2, 29 days left", x.priceIn(2, 32), 339);
        check.due("rule 2, 1 day left", x.priceIn(2, 60), 526);
        x.pass(1);
        check.due("rule 2, 1 day left", x.priceIn(2, 59), 526);
        check.due("rule 2, over", x.priceIn(2, 60), -5);
        check.due("count(0)", x.count(0), 1);
        check.due("count(14)", x.count(14), 4);
    }

    private static void priceInErrors() {
        check.at("promise 25, errors");
        RightsDesk x = new RightsDesk();
        x.addDate(3, 5, 0, 333, 0);
        check.due("priceIn(0, 2)", x.priceIn(0, 2), 333);
        check.due("priceIn(0, 3)", x.priceIn(0, 3), -5);
        check.due("priceIn(0, 60)", x.priceIn(0, 60), -5);
        check.due("priceIn(0, 61)", x.priceIn(0, 61), -2);
        check.due("priceIn(0, -1)", x.priceIn(0, -1), -2);
        check.due("priceIn(0, MAX)", x.priceIn(0, MAX), -2);
        check.due("priceIn(0, MIN)", x.priceIn(0, MIN), -2);
        check.due("priceIn(1, 0)", x.priceIn(1, 0), -1);
        check.due("priceIn(-1, -1)", x.priceIn(-1, -1), -1);
        check.due("priceIn(MIN, 0)", x.priceIn(MIN, 0), -1);
        x.pass(3);
        check.due("priceIn(0, 0), over", x.priceIn(0, 0), -5);
        check.due("priceIn(0, 61), over", x.priceIn(0, 61), -2);
    }

    private static void wouldCover() {
        check.at("promise 26");
        RightsDesk x = new RightsDesk();
        x.addDate(30, 2, 3, 101, 0);
        x.addDate(30, 2, 3, 101, 0);
        check.due("none out", x.wouldCover(0), 0);
        x.buy(0, 0);
        x.buy(1, 0);
        check.due("as many out as places", x.wouldCover(0), 0);
        x.buy(2, 0);
        check.due("one too many", x.wouldCover(0), 151);
        x.buy(3, 0);
        x.buy(4, 0);
        check.due("three too many", x.wouldCover(0), 453);
        x.offer(4, 200);
        check.due("one offered", x.wouldCover(0), 502);
        x.offer(0, 20);
        check.due("two offered", x.wouldCover(0), 371);
        x.offer(1, 10);
        x.offer(2, 199);
        x.offer(3, 198);
        check.due("all offered", x.wouldCover(0), 228);
        check.due("the other date", x.wouldCover(1), 0);
        check.due("nothing is changed", x.count(7), 0);
        check.due("nothing is changed", x.date(0, 8), 5);
        check.due("nothing is changed", x.event(0, 2), 198);
        check.due("nothing is changed", x.count(9), MORE + 505);
        check.due("as the day does it", x.pass(27), 0);
        check.due("as the day does it", x.count(9), MORE + 505 - 228);
        RightsDesk y = new RightsDesk();
        y.addDate(30, 1, 2, 100, 0);
        y.buy(0, 0);
        y.set(0, 0);
        y.buy(1, 0);
        y.await(5, 0);
        check.due("with 0 days of cover, and nothing lapsed", y.wouldCover(0), 150);
        check.due("the list is not looked at", y.date(0, 12), 1);
    }

    private static void wouldCoverErrors() {
        check.at("promise 26, errors");
        RightsDesk x = new RightsDesk();
        x.addDate(5, 1, 2, 100, 0);
        x.buy(0, 0);
        x.buy(1, 0);
        check.due("wouldCover(-1)", x.wouldCover(-1), -1);
        check.due("wouldCover(1)", x.wouldCover(1), -1);
        check.due("wouldCover(MIN)", x.wouldCover(MIN), -1);
        check.due("wouldCover(MAX)", x.wouldCover(MAX), -1);
        check.due("5 days left", x.wouldCover(0), 150);
        x.set(0, 4);
        check.due("5 days left, 4 of cover", x.wouldCover(0), 150);
        x.set(0, 5);
        check.due("5 days left, 5 of cover", x.wouldCover(0), -5);
        x.set(0, 6);
        check.due("5 days left, 6 of cover", x.wouldCover(0), -5);
        x.set(0, 0);
        x.pass(5);
        check.due("over", x.wouldCover(0), -5);
    }

    private static void event() {
        check.at("promise 27");
        RightsDesk x = new RightsDesk();
        x.addDate(90, 20, 0, 100, 0);
        check.due("event(0, 0)", x.event(0, 0), -5);
        check.due("event(0, 4)", x.event(0, 4), -2);
        check.due("event(0, -1)", x.event(0, -1), -2);
        check.due("event(-1, 0)", x.event(-1, 0), -2);
        check.due("event(MIN, 0)", x.event(MIN, 0), -2);
        check.due("event(MAX, 0)", x.event(MAX, 0), -5);
        check.due("event(MAX, MAX)", x.event(MAX, MAX), -2);
        check.due("event(0, MIN)", x.event(0, MIN), -2);
        for (int i = 0; i < 10; i++) {
            x.buy(0, 0);
            check.due("event(" + i + ", 1)", x.event(i, 1), 0);
            check.due("event(" + (i + 1) + ", 1)", x.event(i + 1, 1), -5);
        }
        x.buy(0, 0);
        check.due("event(9, 1)", x.event(9, 1), 1);
        check.due("event(0, 1)", x.event(0, 1), 10);
        check.due("event(10, 1)", x.event(10, 1), -5);
        x.pass(3);
        x.buy(0, 0);
        check.due("event(0, 3)", x.event(0, 3), 3);
        check.due("event(1, 3)", x.event(1, 3), 0);
        check.due("undo()", x.undo(), 3);
        check.due("event(0, 1)", x.event(0, 1), 10);
        check.due("event(9, 1)", x.event(9, 1), 1);
    }

    private static void eventsOfEachKind() {
        check.at("promise 27, kinds");
        RightsDesk x = new RightsDesk();
        x.addDate(20, 2, 3, 100, 1);
        x.buy(0, 0);
        x.buy(1, 0);
        x.buy(2, 0);
        x.buy(3, 0);
        x.pass(2);
        x.offer(1, 44);
        x.offer(1, 45);
        x.takeBack(1);
        x.offer(2, 99);
        x.buyOffered(8, 0);
        x.exercise(3);
        x.cancel(2);
        x.pass(18);
        int[][] due = {{6, 1, 150, 20}, {5, 0, 150, 17}, {4, 2, 140, 2}, {3, 3, 500, 2}, {1, 2, 99, 2}, {2, 2, 99, 2},
            {2, 1, 45, 2}, {2, 1, 44, 2}, {0, 3, 250, 0}, {0, 2, 200, 0}};
        for (int back = 0; back < due.length; back++) {
            for (int what = 0; what < 4; what++) {
                check.due("event(" + back + ", " + what + ")", x.event(back, what), due[back][what]);
            }
        }
    }

    private static void count() {
        check.at("promise 28");
        RightsDesk x = new RightsDesk();
        x.addDate(10, 2, 4, 100, 0);
        x.addDate(5, 2, 4, 100, 0);
        for (int i = 0; i < 6; i++) {
            x.buy(i, 0);
        }
        x.buy(0, 1);
        x.exercise(0);
        x.cancel(1);
        x.pass(6);
        x.set(0, 2);
        x.set(1, 20);
        x.set(2, 10);
        x.set(3, 600);
        x.offer(2, 10);
        x.offer(3, 11);
        x.await(9, 0);
        Check.write(x, "hello");
        int[] due = {6, 2, 7, 2, 2, 1, 1, 0, 1, MORE + 700 + 500 - 40, 2, 20, 10, 600, 4, 5};
        for (int what = 0; what < due.length; what++) {
            check.due("count(" + what + ")", x.count(what), due[what]);
        }
        x.pass(2);
        check.due("count(3)", x.count(3), 1);
        check.due("count(4)", x.count(4), 0);
        check.due("count(7), what the list bought made one more too many", x.count(7), 4);
        int[] bad = {-1, 16, MIN, MAX};
        for (int what : bad) {
            check.due("count(" + what + ")", x.count(what), -2);
        }
    }

    private static void sumOfAccounts() {
        check.at("promise 28, the sum of the accounts");
        RightsDesk x = new RightsDesk();
        x.addDate(10, 2, 4, 101, 1);
        for (int i = 0; i < 6; i++) {
            x.buy(i, 0);
        }
        x.offer(0, 33);
        x.buyOffered(7, 0);
        x.cancel(3);
        x.exercise(4);
        x.pass(10);
        long sum = x.count(9) - MORE;
        for (int holder = 0; holder < 10; holder++) {
            sum += x.holder(holder, 0) - MORE;
        }
        check.due("the sum", sum, 0);
    }
}
