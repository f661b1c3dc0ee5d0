/** Promises 17 to 19: undo, keep, restore. */
public final class HistoryTest {
    private static final Check check = new Check();

    public static void main(String[] args) {
        undo();
        undoOfAtMostFour();
        undoOfEverything();
        noActs();
        keep();
        restore();
        restoreOfEverything();
        restoreOverOtherRows();
        check.close();
    }

    private static void undo() {
        check.at("promise 17");
        RightsDesk x = new RightsDesk();
        check.due("undo()", x.undo(), -5);
        x.set(3, 1);
        x.set(3, 2);
        check.due("undo()", x.undo(), 1);
        check.due("count(13)", x.count(13), 1);
        x.set(3, 5);
        check.due("count(14)", x.count(14), 2);
        check.due("undo()", x.undo(), 1);
        check.due("count(13)", x.count(13), 1);
        check.due("undo()", x.undo(), 0);
        check.due("count(13)", x.count(13), 500);
        check.due("undo()", x.undo(), -5);
        check.due("count(13)", x.count(13), 500);
        check.due("count(14)", x.count(14), 0);
    }

    private static void undoOfAtMostFour() {
        check.at("promise 17, at most four");
        RightsDesk x = new RightsDesk();
        for (int i = 1; i <= 13; i++) {
            x.set(3, i);
            check.due("count(14)", x.count(14), Math.min(i, 4));
        }
        for (int left = 3; left >= 0; left--) {
            check.due("undo()", x.undo(), left);
            check.due("count(13)", x.count(13), 9 + left);
        }
        check.due("undo()", x.undo(), -5);
        check.due("count(13)", x.count(13), 9);
        x.set(3, 20);
        x.set(3, 21);
        x.undo();
        x.set(3, 22);
        x.set(3, 23);
        x.set(3, 24);
        x.set(3, 25);
        int[] due = {24, 23, 22, 20};
        for (int i = 0; i < 4; i++) {
            check.due("undo()", x.undo(), 3 - i);
            check.due("count(13)", x.count(13), due[i]);
        }
        check.due("undo()", x.undo(), -5);
    }

    private static RightsDesk busyDesk() {
        RightsDesk x = new RightsDesk();
        x.addDate(30, 4, 0, 100, 1);
        x.buy(1, 0);
        x.buy(2, 0);
        x.offer(1, 90);
        x.await(6, 0);
        return x;
    }

    /** All that is told of a state in which the dates and the rights are two at most. */
    private static String told(RightsDesk x) {
        StringBuilder all = new StringBuilder();
        for (int number = 0; number < 2; number++) {
            for (int what = 0; what < 14; what++) {
                all.append(x.date(number, what)).append(' ');
            }
        }
        for (int number = 0; number < 3; number++) {
            for (int what = 0; what < 9; what++) {
                all.append(x.right(number, what)).append(' ');
            }
        }
        for (int holder = 0; holder < 10; holder++) {
            all.append(x.holder(holder, 0)).append(' ').append(x.holder(holder, 3)).append(' ');
        }
        for (int back = 0; back < 10; back++) {
            all.append(x.event(back, 0)).append(' ').append(x.event(back, 2)).append(' ').append(x.event(back, 3)).append(' ');
        }
        for (int what = 0; what < 14; what++) {
            all.append(x.count(what)).append(' ');
        }
        for (int stage = 0; stage < 4; stage++) {
            all.append(x.stage(stage, 0)).append(' ').append(x.stage(stage, 1)).append(' ');
        }
        all.append(x.waiting(0, 0)).append(' ').append(x.waiting(0, 1));
        return all.toString();
    }

    private static int act(RightsDesk x, int number) {
        switch (number) {
            case 0:
                return x.addDate(50, 3, 1, 77, 2);
            case 1:
                return x.setStage(1, 15, 31);
            case 2:
                return x.set(0, 4);
            case 3:
                return x.set(1, 11);
            case 4:
                return x.set(2, 30);
            case 5:
                return x.buy(3, 0);
            case 6:
                return x.buyOffered(3, 0);
            case 7:
                return x.cancel(0);
            case 8:
                return x.offer(0, 80);
            case 9:
                return x.takeBack(1);
            case 10:
                x.set(2, 60);
                return x.exercise(0);
            case 11:
                return x.await(7, 0);
            case 12:
                return x.leave(6, 0);
            case 13:
                return x.pass(3);
            case 14:
                return x.pass(40);
            default:
                Check.write(x, "c0;b4@0;m5@0");
                return x.perform();
        }
    }

    private static void undoOfEverything() {
        check.at("promise 17, everything");
        for (int number = 0; number < 16; number++) {
            RightsDesk x = busyDesk();
            if (number == 10) {
                x.set(2, 60);
            }
            String before = told(x);
            x = busyDesk();
            check.holds("act " + number + " is done", act(x, number) >= 0);
            String after = told(x);
            check.holds("act " + number + " changes something", !before.equals(after));
            check.due("undo() of act " + number, x.undo(), 3);
            check.holds("undo() of act " + number + " brings all back", before.equals(told(x)));
        }
    }

    private static void noActs() {
        check.at("no acts");
        RightsDesk x = busyDesk();
        x.undo();
        check.due("count(14)", x.count(14), 3);
        Check.write(x, "b0@5");
        x.perform();
        x.clearText();
        x.keep();
        x.date(0, 9);
        x.priceIn(0, 3);
        x.wouldCover(0);
        x.wouldCover(7);
        x.addDate(0, 0, 0, 0, 0);
        x.setStage(9, 0, 0);
        x.setStage(0, 30, 10);
        x.set(0, 3);
        x.buy(0, 9);
        x.buyOffered(2, 0);
        x.cancel(9);
        x.offer(1, 90);
        x.takeBack(0);
        x.exercise(0);
        x.await(0, 9);
        x.leave(0, 0);
        x.pass(0);
        check.due("count(14)", x.count(14), 3);
        check.due("undo()", x.undo(), 2);
        check.due("right(1, 3)", x.right(1, 3), 0);
        x.wouldCover(0);
        check.due("undo()", x.undo(), 1);
        check.due("count(2)", x.count(2), 1);
        RightsDesk y = busyDesk();
        for (int i = 1; i <= 4; i++) {
            y.set(3, i);
        }
        y.set(3, 4);
        y.buy(0, 9);
        y.wouldCover(0);
        Check.write(y, "b0@0;b0@9");
        y.perform();
        for (int left = 3; left >= 0; left--) {
            check.due("undo()", y.undo(), left);
        }
        check.due("the oldest of four states, after calls that were no acts", y.count(13), 500);
    }

    private static void keep() {
        check.at("promise 18");
        RightsDesk x = new RightsDesk();
        check.due("keep() on the day 0", x.keep(), 0);
        check.due("count(14)", x.count(14), 0);
        check.due("undo()", x.undo(), -5);
        x.pass(7);
        check.due("keep() on the day 7", x.keep(), 7);
        x.pass(2);
        check.due("restore(), the later one", x.restore(), 7);
        check.due("keep() is no act", x.count(14), 3);
        x.undo();
        check.due("count(0)", x.count(0), 9);
        check.due("the snapshot is no part of a state", x.restore(), 7);
    }

    private static void restore() {
        check.at("promise 19");
        RightsDesk x = new RightsDesk();
        check.due("restore()", x.restore(), -5);
        check.due("count(14)", x.count(14), 0);
        x.set(3, 1);
        x.keep();
        x.set(3, 2);
        x.pass(5);
        Check.write(x, "abc");
        check.due("restore()", x.restore(), 0);
        check.due("count(13)", x.count(13), 1);
        check.due("count(14), an act", x.count(14), 4);
        check.due("count(15), the text stays", x.count(15), 3);
        check.due("restore() again, an act too", x.restore(), 0);
        check.due("count(14)", x.count(14), 4);
        check.due("undo()", x.undo(), 3);
        check.due("count(13)", x.count(13), 1);
        check.due("undo()", x.undo(), 2);
        check.due("count(13)", x.count(13), 2);
        check.due("count(0)", x.count(0), 5);
        check.due("the snapshot stays", x.restore(), 0);
        x.set(3, 9);
        check.due("changes do not reach the snapshot", x.restore(), 0);
        check.due("count(13)", x.count(13), 1);
    }

    /** Rows that were used again for something else must come back as they were. */
    private static void restoreOverOtherRows() {
        check.at("promise 19, over other rows");
        RightsDesk x = new RightsDesk();
        x.addDate(90, 5, 5, 500, 0);
        x.addDate(30, 2, 1, 100, 1);
        x.buy(1, 1);
        x.await(4, 1);
        x.keep();
        x.undo();
        x.undo();
        x.undo();
        x.pass(1);
        x.addDate(40, 3, 2, 200, 2);
        x.buy(2, 0);
        x.await(5, 1);
        x.await(6, 1);
        x.restore();
        int[] date = {30, 2, 1, 100, 1, 30, 1, 0, 0, 150, 2, 0, 1, -5};
        for (int what = 0; what < date.length; what++) {
            check.due("date(1, " + what + ")", x.date(1, what), date[what]);
        }
        int[] right = {1, 1, 100, 0, -5, 0, 0, 90, 0};
        for (int what = 0; what < right.length; what++) {
            check.due("right(0, " + what + ")", x.right(0, what), right[what]);
        }
        check.due("waiting(1, 0)", x.waiting(1, 0), 4);
        x.undo();
        int[] other = {40, 3, 2, 200, 2, 39, 0, 0, 0, 200, 5, 0, 2, -5};
        for (int what = 0; what < other.length; what++) {
            check.due("date(1, " + what + ")", x.date(1, what), other[what]);
        }
        int[] otherRight = {0, 2, 500, 0, -5, 1, 0, 450, 0};
        for (int what = 0; what < otherRight.length; what++) {
            check.due("right(0, " + what + ")", x.right(0, what), otherRight[what]);
        }
        check.due("waiting(1, 0)", x.waiting(1, 0), 5);
    }

    private static void restoreOfEverything() {
        check.at("promise 19, everything");
        for (int number = 0; number < 16; number++) {
            RightsDesk x = busyDesk();
            if (number == 10) {
                x.set(2, 60);
            }
            String before = told(x);
            x = busyDesk();
            if (number == 10) {
                x.set(2, 60);
            }
            x.keep();
            act(x, number);
            String after = told(x);
            check.due("restore() after act " + number, x.restore(), 0);
            check.holds("restore() after act " + number + " brings all back", before.equals(told(x)));
            check.due("undo()", x.undo(), 3);
            check.holds("undo() of restore() after act " + number, after.equals(told(x)));
        }
    }
}
