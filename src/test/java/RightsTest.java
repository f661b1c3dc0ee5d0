/** Promises 5 to 13: buy, buyOffered, cancel, offer, takeBack, exercise, await, leave, pass. */
public final class RightsTest {
    private static final Check check = new Check();
    private static final int MORE = 1000000000;

    public static void main(String[] args) {
        buy();
        buyErrors();
        buyByRules();
        buyInTheDaysOfCover();
        buySixtyRights();
        buyOffered();
        buyOfferedErrors();
        buyOfferedCommission();
        cancel();
        cancelByStages();
        cancelLetsTheListBuy();
        cancelLetsNoOtherListBuy();
        offer();
        offerErrors();
        takeBack();
        exercise();
        exerciseWindow();
        exercisePlaces();
        await();
        awaitErrors();
        leave();
        passErrors();
        passLapses();
        passCovers();
        passCoversHeld();
        passCoversOnItsDayAlone();
        passCoversNoExercised();
        passLetsListsBuy();
        passInOrder();
        check.close();
    }

    private static RightsDesk deskWith(int day, int places, int surplus, int base, int rule) {
        RightsDesk x = new RightsDesk();
        x.addDate(day, places, surplus, base, rule);
        return x;
    }

    private static void event(RightsDesk x, int back, int kind, int right, int cents, int day) {
        check.due("event(" + back + ", 0)", x.event(back, 0), kind);
        check.due("event(" + back + ", 1)", x.event(back, 1), right);
        check.due("event(" + back + ", 2)", x.event(back, 2), cents);
        check.due("event(" + back + ", 3)", x.event(back, 3), day);
    }

    private static void buy() {
        check.at("promise 5");
        RightsDesk x = deskWith(50, 3, 1, 100, 1);
        x.pass(2);
        check.due("buy(4, 0)", x.buy(4, 0), 0);
        check.due("count(14)", x.count(14), 3);
        int[] told = {0, 4, 100, 0, -5, 2, 0, 90, 0};
        for (int what = 0; what < told.length; what++) {
            check.due("right(0, " + what + ")", x.right(0, what), told[what]);
        }
        event(x, 0, 0, 0, 100, 2);
        check.due("holder(4, 0)", x.holder(4, 0), MORE - 100);
        check.due("count(9)", x.count(9), MORE + 100);
        check.due("buy(4, 0) again", x.buy(4, 0), 1);
        check.due("right(1, 2)", x.right(1, 2), 133);
        check.due("buy(9, 0)", x.buy(9, 0), 2);
        check.due("right(2, 2)", x.right(2, 2), 166);
        check.due("buy(0, 0)", x.buy(0, 0), 3);
        check.due("right(3, 2)", x.right(3, 2), 200);
        check.due("buy(0, 0), nothing left", x.buy(0, 0), -3);
        check.due("count(2)", x.count(2), 4);
        check.due("holder(4, 0)", x.holder(4, 0), MORE - 233);
        check.due("undo()", x.undo(), 3);
        check.due("count(2) after undo", x.count(2), 3);
        check.due("holder(0, 0) after undo", x.holder(0, 0), MORE);
    }

    private static void buyErrors() {
        check.at("promise 5, errors");
        RightsDesk x = deskWith(2, 1, 0, 100, 0);
        check.due("buy(-1, 0)", x.buy(-1, 0), -1);
        check.due("buy(10, 0)", x.buy(10, 0), -1);
        check.due("buy(0, -1)", x.buy(0, -1), -1);
        check.due("buy(0, 1)", x.buy(0, 1), -1);
        check.due("buy(MIN, MAX)", x.buy(Integer.MIN_VALUE, Integer.MAX_VALUE), -1);
        check.due("buy(0, 0)", x.buy(0, 0), 0);
        check.due("buy(1, 0)", x.buy(1, 0), -3);
        check.due("buy(10, 0) when full", x.buy(10, 0), -1);
        x.pass(1);
        check.due("buy(1, 0) with one day left", x.buy(1, 0), -3);
        x.pass(1);
        check.due("buy(1, 0) when over", x.buy(1, 0), -4);
        check.due("buy(10, 0) when over", x.buy(10, 0), -1);
        check.due("count(14)", x.count(14), 4);
        RightsDesk y = deskWith(2, 2, 0, 100, 0);
        y.pass(1);
        check.due("buy(1, 0) with one day left, one place", y.buy(1, 0), 0);
    }

    private static void buyByRules() {
        check.at("promise 5, rules");
        RightsDesk x = new RightsDesk();
        x.addDate(60, 5, 0, 99, 0);
        x.addDate(60, 7, 5, 99, 1);
        x.addDate(33, 5, 5, 99, 2);
        x.buy(0, 0);
        x.buy(0, 0);
        check.due("rule 0", x.right(1, 2), 99);
        x.buy(0, 1);
        x.buy(0, 1);
        x.buy(0, 1);
        check.due("rule 1, none out", x.right(2, 2), 99);
        check.due("rule 1, 1 out", x.right(3, 2), 113);
        check.due("rule 1, 2 out", x.right(4, 2), 127);
        x.buy(0, 2);
        check.due("rule 2, 33 days left", x.right(5, 2), 99);
        x.pass(3);
        x.buy(0, 2);
        check.due("rule 2, 30 days left", x.right(6, 2), 99);
        x.pass(1);
        x.buy(0, 2);
        check.due("rule 2, 29 days left", x.right(7, 2), 100);
        x.pass(4);
        x.buy(0, 2);
        check.due("rule 2, 25 days left", x.right(8, 2), 108);
        x.pass(24);
        x.buy(0, 2);
        check.due("rule 2, 1 day left", x.right(9, 2), 156);
        check.due("offered rights are out", x.offer(3, 10), 0);
        x.buy(0, 1);
        check.due("rule 1, 3 out, one of them offered", x.right(10, 2), 141);
        x.set(2, 60);
        x.exercise(4);
        x.buy(0, 1);
        check.due("rule 1, 4 out, one of them exercised", x.right(11, 2), 155);
        x.cancel(2);
        x.buy(0, 1);
        check.due("rule 1, 4 out, one cancelled", x.right(12, 2), 155);
        RightsDesk y = deskWith(60, 1, 5, 9999, 1);
        for (int i = 0; i < 6; i++) {
            y.buy(0, 0);
            check.due("rule 1, one place, " + i + " out", y.right(i, 2), 9999 * (i + 1));
        }
    }

    private static void buyInTheDaysOfCover() {
        check.at("promise 5, days of cover");
        RightsDesk x = deskWith(10, 2, 2, 100, 0);
        x.buy(0, 0);
        x.buy(0, 0);
        x.pass(6);
        check.due("buy(1, 0), 4 days left", x.buy(1, 0), 2);
        x.undo();
        x.pass(1);
        check.due("date(0, 10), 3 days left", x.date(0, 10), 0);
        check.due("buy(1, 0), 3 days left", x.buy(1, 0), -3);
        x.set(0, 2);
        check.due("date(0, 10), 3 days left, 2 of cover", x.date(0, 10), 2);
        check.due("buy(1, 0), 3 days left, 2 of cover", x.buy(1, 0), 2);
        x.set(0, 9);
        check.due("date(0, 10), more out than places", x.date(0, 10), 0);
        check.due("buy(1, 0), more out than places", x.buy(1, 0), -3);
        x.set(0, 0);
        x.pass(2);
        check.due("buy(1, 0), 1 day left, 0 of cover", x.buy(1, 0), 3);
    }

    private static void buySixtyRights() {
        check.at("promise 5, sixty rights");
        RightsDesk x = new RightsDesk();
        for (int i = 0; i < 4; i++) {
            x.addDate(100, 20, 0, 10, 0);
        }
        for (int i = 0; i < 59; i++) {
            check.due("buy " + i, x.buy(i % 10, i / 20), i);
        }
        check.due("date(3, 10)", x.date(3, 10), 1);
        check.due("date(2, 10)", x.date(2, 10), 1);
        check.due("date(0, 10)", x.date(0, 10), 0);
        check.due("the sixtieth", x.buy(3, 3), 59);
        check.due("date(3, 10)", x.date(3, 10), 0);
        check.due("the sixty-first", x.buy(3, 3), -3);
        x.await(5, 3);
        check.due("cancel(59)", x.cancel(59), 9);
        check.due("the sixty-first after a cancelled one", x.buy(3, 3), -3);
        check.due("the list could not buy", x.date(3, 12), 1);
        check.due("count(2)", x.count(2), 60);
        check.due("right(60, 0)", x.right(60, 0), -1);
        check.due("right(59, 0)", x.right(59, 0), 3);
    }

    private static void buyOffered() {
        check.at("promise 6");
        RightsDesk x = new RightsDesk();
        x.addDate(40, 5, 0, 100, 0);
        x.addDate(40, 5, 0, 100, 0);
        x.buy(0, 1);
        x.buy(1, 0);
        x.buy(2, 0);
        x.buy(3, 0);
        x.offer(0, 1);
        x.offer(1, 120);
        x.offer(2, 95);
        x.offer(3, 95);
        x.pass(4);
        check.due("buyOffered(7, 0)", x.buyOffered(7, 0), 2);
        event(x, 0, 1, 2, 95, 4);
        check.due("right(2, 1)", x.right(2, 1), 7);
        check.due("right(2, 2)", x.right(2, 2), 100);
        check.due("right(2, 3)", x.right(2, 3), 0);
        check.due("right(2, 4)", x.right(2, 4), -5);
        check.due("right(2, 5)", x.right(2, 5), 0);
        check.due("right(2, 6)", x.right(2, 6), 1);
        check.due("holder(7, 0)", x.holder(7, 0), MORE - 95);
        check.due("holder(2, 0)", x.holder(2, 0), MORE - 100 + 95 - 9);
        check.due("count(9)", x.count(9), MORE + 400 + 9);
        check.due("count(14)", x.count(14), 4);
        check.due("buyOffered(7, 0)", x.buyOffered(7, 0), 3);
        check.due("buyOffered(7, 0)", x.buyOffered(7, 0), 1);
        check.due("buyOffered(7, 0)", x.buyOffered(7, 0), -4);
        check.due("holder(7, 1)", x.holder(7, 1), 3);
        check.due("what was asked before the resale is forgotten", x.offer(2, 10), 0);
        check.due("bought back", x.buyOffered(2, 0), 2);
        check.due("right(2, 6)", x.right(2, 6), 2);
        check.due("right(2, 2) stays", x.right(2, 2), 100);
        check.due("undo()", x.undo(), 3);
        check.due("right(2, 6) after undo", x.right(2, 6), 1);
        check.due("right(2, 4) after undo", x.right(2, 4), 10);
    }

    private static void buyOfferedErrors() {
        check.at("promise 6, errors");
        RightsDesk x = deskWith(5, 5, 0, 100, 0);
        x.buy(1, 0);
        x.buy(2, 0);
        check.due("none offered", x.buyOffered(3, 0), -4);
        x.offer(0, 50);
        x.offer(1, 50);
        check.due("buyOffered(-1, 0)", x.buyOffered(-1, 0), -1);
        check.due("buyOffered(10, 0)", x.buyOffered(10, 0), -1);
        check.due("buyOffered(0, -1)", x.buyOffered(0, -1), -1);
        check.due("buyOffered(0, 1)", x.buyOffered(0, 1), -1);
        check.due("one's own is the one", x.buyOffered(1, 0), -4);
        check.due("one's own is not the one", x.buyOffered(2, 0), 0);
        check.due("count(14)", x.count(14), 4);
        x.pass(5);
        check.due("over", x.buyOffered(3, 0), -4);
        check.due("over, unknown holder", x.buyOffered(10, 0), -1);
    }

    private static void buyOfferedCommission() {
        check.at("promise 6, commission");
        RightsDesk x = deskWith(5, 5, 0, 100, 0);
        x.buy(1, 0);
        x.set(1, 50);
        x.offer(0, 33);
        x.buyOffered(2, 0);
        check.due("holder(1, 0)", x.holder(1, 0), MORE - 100 + 17);
        check.due("count(9)", x.count(9), MORE + 100 + 16);
        x.set(1, 0);
        x.offer(0, 200);
        x.buyOffered(1, 0);
        check.due("holder(2, 0)", x.holder(2, 0), MORE - 33 + 200);
        check.due("holder(1, 0)", x.holder(1, 0), MORE - 83 - 200);
        check.due("count(9)", x.count(9), MORE + 116);
        x.set(1, 50);
        x.offer(0, 200);
        x.buyOffered(3, 0);
        check.due("holder(1, 0)", x.holder(1, 0), MORE - 283 + 100);
        x.set(1, 10);
        x.offer(0, 100);
        x.buyOffered(4, 0);
        check.due("holder(3, 0)", x.holder(3, 0), MORE - 200 + 90);
        x.offer(0, 9);
        x.buyOffered(5, 0);
        check.due("holder(4, 0)", x.holder(4, 0), MORE - 100 + 9);
    }

    private static void cancel() {
        check.at("promise 7");
        RightsDesk x = deskWith(40, 5, 0, 99, 0);
        x.buy(6, 0);
        x.buy(6, 0);
        x.offer(1, 50);
        x.pass(3);
        check.due("cancel(0)", x.cancel(0), 90);
        event(x, 0, 4, 0, 90, 3);
        check.due("right(0, 3)", x.right(0, 3), 3);
        check.due("right(0, 7)", x.right(0, 7), -5);
        check.due("holder(6, 0)", x.holder(6, 0), MORE - 198 + 90);
        check.due("count(9)", x.count(9), MORE + 198 - 90);
        check.due("date(0, 6)", x.date(0, 6), 1);
        check.due("count(14)", x.count(14), 4);
        check.due("cancel(0) again", x.cancel(0), -4);
        check.due("cancel(1), an offered one", x.cancel(1), 90);
        check.due("right(1, 4)", x.right(1, 4), -5);
        check.due("date(0, 8)", x.date(0, 8), 0);
        check.due("cancel(-1)", x.cancel(-1), -1);
        check.due("cancel(2)", x.cancel(2), -1);
        check.due("cancel(MIN)", x.cancel(Integer.MIN_VALUE), -1);
        check.due("cancel(MAX)", x.cancel(Integer.MAX_VALUE), -1);
        x.buy(6, 0);
        x.buy(6, 0);
        x.pass(27);
        check.due("exercise(2)", x.exercise(2), 1);
        check.due("cancel(2), exercised", x.cancel(2), -4);
        x.pass(10);
        check.due("cancel(3), lapsed", x.cancel(3), -4);
    }

    private static void cancelByStages() {
        check.at("promise 7, stages");
        int[][] due = {{31, 900}, {30, 900}, {29, 700}, {14, 700}, {13, 400}, {7, 400}, {6, 0}, {1, 0}};
        for (int[] row : due) {
            RightsDesk x = deskWith(row[0], 1, 0, 999, 0);
            x.buy(0, 0);
            int back = row[1] == 0 ? 0 : 999 - 999 * (1000 - row[1]) / 10 / 100;
            check.due("right(0, 7), days left " + row[0], x.right(0, 7), back);
            check.due("cancel(0), days left " + row[0], x.cancel(0), back);
        }
        RightsDesk y = deskWith(29, 1, 0, 101, 0);
        y.buy(0, 0);
        check.due("what is kept is rounded down", y.cancel(0), 71);
        RightsDesk z = deskWith(20, 2, 0, 100, 0);
        z.buy(0, 0);
        z.buy(0, 0);
        z.setStage(1, 21, 33);
        z.setStage(2, 20, 44);
        check.due("by the stages of then", z.cancel(0), 56);
        z.setStage(3, 0, 7);
        z.pass(1);
        check.due("by the stages of then", z.cancel(1), 93);
        RightsDesk w = deskWith(31, 1, 0, 50, 0);
        w.buy(1, 0);
        w.offer(0, 100);
        w.buyOffered(2, 0);
        check.due("by the cost, not by what was paid", w.cancel(0), 45);
        check.due("its holder gets it", w.holder(2, 0), MORE - 100 + 45);
    }

    private static void cancelLetsTheListBuy() {
        check.at("promise 7, the list buys");
        RightsDesk x = deskWith(40, 2, 1, 100, 1);
        x.buy(0, 0);
        x.buy(0, 0);
        x.buy(0, 0);
        x.await(4, 0);
        x.await(5, 0);
        x.pass(1);
        check.due("date(0, 12), none can be sold", x.date(0, 12), 2);
        check.due("cancel(1)", x.cancel(1), 135);
        check.due("right(3, 1)", x.right(3, 1), 4);
        check.due("right(3, 2)", x.right(3, 2), 200);
        check.due("right(3, 5)", x.right(3, 5), 1);
        check.due("date(0, 12)", x.date(0, 12), 1);
        check.due("waiting(0, 0)", x.waiting(0, 0), 5);
        event(x, 0, 0, 3, 200, 1);
        event(x, 1, 4, 1, 135, 1);
        check.due("holder(4, 0)", x.holder(4, 0), MORE - 200);
        check.due("undo() takes all of it back", x.undo(), 3);
        check.due("count(2)", x.count(2), 3);
        check.due("waiting(0, 0)", x.waiting(0, 0), 4);
        RightsDesk y = deskWith(40, 4, 0, 100, 1);
        y.buy(0, 0);
        y.await(7, 0);
        y.await(8, 0);
        y.await(9, 0);
        check.due("cancel(0)", y.cancel(0), 90);
        check.due("date(0, 12), all have bought", y.date(0, 12), 0);
        check.due("right(1, 1)", y.right(1, 1), 7);
        check.due("right(2, 1)", y.right(2, 1), 8);
        check.due("right(3, 1)", y.right(3, 1), 9);
        check.due("right(1, 2)", y.right(1, 2), 100);
        check.due("right(2, 2)", y.right(2, 2), 125);
        check.due("right(3, 2)", y.right(3, 2), 150);
    }

    private static void cancelLetsNoOtherListBuy() {
        check.at("promise 7, no other list buys");
        RightsDesk x = new RightsDesk();
        x.addDate(40, 2, 0, 100, 0);
        x.addDate(40, 2, 0, 100, 0);
        x.buy(0, 0);
        x.await(3, 1);
        x.cancel(0);
        check.due("date(1, 12)", x.date(1, 12), 1);
        check.due("count(2)", x.count(2), 1);
        RightsDesk y = deskWith(10, 2, 2, 100, 0);
        y.buy(0, 0);
        y.buy(0, 0);
        y.buy(0, 0);
        y.buy(0, 0);
        y.set(0, 9);
        y.pass(1);
        y.await(1, 0);
        y.set(0, 9);
        check.due("count(7)", y.count(7), 2);
        check.due("cancel(2)", y.cancel(3), 40);
        check.due("in the days of cover up to the places", y.right(4, 1), 1);
    }

    private static void offer() {
        check.at("promise 8");
        RightsDesk x = deskWith(40, 5, 0, 100, 1);
        x.buy(1, 0);
        x.buy(1, 0);
        x.pass(2);
        check.due("offer(1, 200)", x.offer(1, 200), 0);
        event(x, 0, 2, 1, 200, 2);
        check.due("right(1, 3)", x.right(1, 3), 1);
        check.due("right(1, 4)", x.right(1, 4), 200);
        check.due("right(1, 1)", x.right(1, 1), 1);
        check.due("offer(1, 200) again", x.offer(1, 200), -5);
        check.due("count(14)", x.count(14), 4);
        check.due("offer(1, 1)", x.offer(1, 1), 200);
        event(x, 0, 2, 1, 1, 2);
        event(x, 1, 2, 1, 200, 2);
        check.due("right(1, 4)", x.right(1, 4), 1);
        check.due("date(0, 13)", x.date(0, 13), 1);
        check.due("holder(1, 0)", x.holder(1, 0), MORE - 220);
        check.due("undo()", x.undo(), 3);
        check.due("right(1, 4)", x.right(1, 4), 200);
        x.takeBack(1);
        check.due("offer after takeBack", x.offer(1, 200), 0);
    }

    private static void offerErrors() {
        check.at("promise 8, errors");
        RightsDesk x = deskWith(20, 5, 0, 100, 0);
        x.buy(1, 0);
        x.buy(1, 0);
        x.buy(1, 0);
        check.due("offer(-1, 1)", x.offer(-1, 1), -1);
        check.due("offer(3, 1)", x.offer(3, 1), -1);
        check.due("offer(3, 0)", x.offer(3, 0), -1);
        check.due("offer(0, 0)", x.offer(0, 0), -2);
        check.due("offer(0, -1)", x.offer(0, -1), -2);
        check.due("offer(0, 201)", x.offer(0, 201), -2);
        check.due("offer(0, MAX)", x.offer(0, Integer.MAX_VALUE), -2);
        check.due("offer(0, MIN)", x.offer(0, Integer.MIN_VALUE), -2);
        check.due("count(14)", x.count(14), 4);
        x.cancel(0);
        x.exercise(1);
        check.due("offer(0, 1), cancelled", x.offer(0, 1), -4);
        check.due("offer(0, 0), cancelled", x.offer(0, 0), -4);
        check.due("offer(1, 1), exercised", x.offer(1, 1), -4);
        check.due("offer(2, 200)", x.offer(2, 200), 0);
        check.due("offer(2, 201), offered", x.offer(2, 201), -2);
        x.pass(20);
        check.due("offer(2, 200), lapsed", x.offer(2, 200), -4);
    }

    private static void takeBack() {
        check.at("promise 9");
        RightsDesk x = deskWith(20, 5, 0, 100, 0);
        x.buy(1, 0);
        check.due("takeBack(0), held", x.takeBack(0), -4);
        check.due("takeBack(-1)", x.takeBack(-1), -1);
        check.due("takeBack(1)", x.takeBack(1), -1);
        check.due("takeBack(MAX)", x.takeBack(Integer.MAX_VALUE), -1);
        x.offer(0, 77);
        check.due("takeBack(0)", x.takeBack(0), 77);
        check.due("count(14)", x.count(14), 4);
        check.due("right(0, 3)", x.right(0, 3), 0);
        check.due("right(0, 4)", x.right(0, 4), -5);
        check.due("date(0, 13)", x.date(0, 13), -5);
        check.due("event(0, 0) is the offer still", x.event(0, 0), 2);
        check.due("takeBack(0) again", x.takeBack(0), -4);
        check.due("undo()", x.undo(), 3);
        check.due("right(0, 4)", x.right(0, 4), 77);
        x.cancel(0);
        check.due("takeBack(0), cancelled", x.takeBack(0), -4);
    }

    private static void exercise() {
        check.at("promise 10");
        RightsDesk x = deskWith(22, 5, 0, 100, 0);
        x.buy(1, 0);
        x.buy(2, 0);
        x.pass(2);
        check.due("exercise(0)", x.exercise(0), 1);
        event(x, 0, 3, 0, 500, 2);
        check.due("right(0, 3)", x.right(0, 3), 2);
        check.due("holder(1, 0)", x.holder(1, 0), MORE - 600);
        check.due("count(9)", x.count(9), MORE + 700);
        check.due("holder(1, 1)", x.holder(1, 1), 0);
        check.due("holder(1, 2)", x.holder(1, 2), 1);
        check.due("date(0, 6), out still", x.date(0, 6), 2);
        check.due("exercise(0) again", x.exercise(0), -4);
        check.due("exercise(-1)", x.exercise(-1), -1);
        check.due("exercise(2)", x.exercise(2), -1);
        x.offer(1, 10);
        check.due("exercise(1), offered", x.exercise(1), -4);
        x.takeBack(1);
        x.set(3, 0);
        check.due("exercise(1)", x.exercise(1), 2);
        check.due("holder(2, 0)", x.holder(2, 0), MORE - 100);
        event(x, 0, 3, 1, 0, 2);
        check.due("undo()", x.undo(), 3);
        check.due("right(1, 3)", x.right(1, 3), 0);
        x.cancel(1);
        check.due("exercise(1), cancelled", x.exercise(1), -4);
    }

    private static void exerciseWindow() {
        check.at("promise 10, window");
        RightsDesk x = deskWith(22, 5, 0, 100, 0);
        for (int i = 0; i < 4; i++) {
            x.buy(1, 0);
        }
        x.pass(1);
        check.due("21 days left", x.exercise(0), -4);
        check.due("right(0, 8)", x.right(0, 8), 0);
        x.set(2, 21);
        check.due("right(0, 8)", x.right(0, 8), 1);
        check.due("21 days left, window 21", x.exercise(0), 1);
        x.set(2, 1);
        x.pass(19);
        check.due("2 days left, window 1", x.exercise(1), -4);
        x.pass(1);
        check.due("1 day left, window 1", x.exercise(1), 2);
        x.pass(1);
        check.due("over", x.exercise(2), -4);
        check.due("count(14)", x.count(14), 4);
    }

    private static void exercisePlaces() {
        check.at("promise 10, places");
        RightsDesk x = new RightsDesk();
        x.addDate(10, 2, 1, 100, 0);
        x.addDate(10, 2, 1, 100, 0);
        x.buy(1, 0);
        x.buy(1, 0);
        x.buy(1, 0);
        x.buy(1, 1);
        check.due("exercise(0)", x.exercise(0), 1);
        check.due("exercise(1)", x.exercise(1), 2);
        check.due("right(2, 8)", x.right(2, 8), 0);
        check.due("exercise(2)", x.exercise(2), -4);
        check.due("another date", x.exercise(3), 1);
    }

    private static void await() {
        check.at("promise 11");
        RightsDesk x = new RightsDesk();
        x.addDate(10, 2, 0, 100, 0);
        x.addDate(10, 2, 0, 100, 0);
        check.due("await(5, 0)", x.await(5, 0), 1);
        check.due("it buys nothing", x.count(2), 0);
        check.due("await(3, 0)", x.await(3, 0), 2);
        check.due("await(5, 1)", x.await(5, 1), 1);
        check.due("waiting(0, 0)", x.waiting(0, 0), 5);
        check.due("waiting(0, 1)", x.waiting(0, 1), 3);
        check.due("waiting(0, 2)", x.waiting(0, 2), -5);
        check.due("holder(5, 3)", x.holder(5, 3), 2);
        check.due("count(14)", x.count(14), 4);
        check.due("event(0, 0)", x.event(0, 0), -5);
        check.due("undo()", x.undo(), 3);
        check.due("date(1, 12)", x.date(1, 12), 0);
        check.due("date(0, 12)", x.date(0, 12), 2);
        check.due("a holder of a right may wait", x.buy(8, 0), 0);
        check.due("a holder of a right may wait", x.await(8, 0), 3);
    }

    private static void awaitErrors() {
        check.at("promise 11, errors");
        RightsDesk x = deskWith(2, 2, 0, 100, 0);
        check.due("await(-1, 0)", x.await(-1, 0), -1);
        check.due("await(10, 0)", x.await(10, 0), -1);
        check.due("await(0, -1)", x.await(0, -1), -1);
        check.due("await(0, 1)", x.await(0, 1), -1);
        for (int i = 0; i < 6; i++) {
            check.due("await(" + i + ", 0)", x.await(i, 0), i + 1);
            check.due("await(" + i + ", 0) again", x.await(i, 0), -4);
            check.due("await(0, 0) again", x.await(0, 0), -4);
        }
        check.due("await(6, 0)", x.await(6, 0), -3);
        check.due("await(5, 0), in the full list", x.await(5, 0), -4);
        check.due("await(10, 0), full", x.await(10, 0), -1);
        check.due("undo()", x.undo(), 3);
        check.due("await(6, 0)", x.await(6, 0), 6);
        check.due("waiting(0, 5)", x.waiting(0, 5), 6);
        x.pass(2);
        check.due("over", x.await(7, 0), -4);
        check.due("over, unknown", x.await(10, 0), -1);
        check.due("the list is empty", x.date(0, 12), 0);
    }

    private static void leave() {
        check.at("promise 12");
        RightsDesk x = deskWith(20, 2, 0, 100, 0);
        check.due("leave(-1, 0)", x.leave(-1, 0), -1);
        check.due("leave(10, 0)", x.leave(10, 0), -1);
        check.due("leave(0, -1)", x.leave(0, -1), -1);
        check.due("leave(0, 1)", x.leave(0, 1), -1);
        check.due("leave(0, 0)", x.leave(0, 0), -5);
        check.due("count(14)", x.count(14), 1);
        for (int i = 0; i < 6; i++) {
            x.await(9 - i, 0);
        }
        check.due("leave(0, 0)", x.leave(0, 0), -5);
        check.due("leave(7, 0)", x.leave(7, 0), 2);
        check.due("leave(4, 0)", x.leave(4, 0), 4);
        check.due("leave(9, 0)", x.leave(9, 0), 0);
        int[] left = {8, 6, 5, -5};
        for (int place = 0; place < left.length; place++) {
            check.due("waiting(0, " + place + ")", x.waiting(0, place), left[place]);
        }
        check.due("date(0, 12)", x.date(0, 12), 3);
        check.due("leave(9, 0) again", x.leave(9, 0), -5);
        check.due("undo()", x.undo(), 3);
        check.due("waiting(0, 0)", x.waiting(0, 0), 9);
        check.due("waiting(0, 3)", x.waiting(0, 3), 5);
        check.due("await(7, 0), at the end", x.await(7, 0), 5);
        check.due("waiting(0, 4)", x.waiting(0, 4), 7);
    }

    private static void passErrors() {
        check.at("promise 13, errors");
        RightsDesk x = deskWith(20, 2, 0, 100, 0);
        check.due("pass(0)", x.pass(0), -2);
        check.due("pass(-1)", x.pass(-1), -2);
        check.due("pass(61)", x.pass(61), -2);
        check.due("pass(MIN)", x.pass(Integer.MIN_VALUE), -2);
        check.due("pass(MAX)", x.pass(Integer.MAX_VALUE), -2);
        check.due("count(14)", x.count(14), 1);
        for (int i = 0; i < 166; i++) {
            x.pass(60);
        }
        check.due("count(0)", x.count(0), 9960);
        check.due("pass(40)", x.pass(40), -4);
        check.due("pass(61)", x.pass(61), -2);
        check.due("pass(39)", x.pass(39), 0);
        check.due("count(0)", x.count(0), 9999);
        check.due("pass(1)", x.pass(1), -4);
        check.due("pass(0)", x.pass(0), -2);
        check.due("count(14)", x.count(14), 4);
        check.due("undo()", x.undo(), 3);
        check.due("count(0)", x.count(0), 9960);
    }

    private static void passLapses() {
        check.at("promise 13, lapsing");
        RightsDesk x = new RightsDesk();
        x.addDate(6, 5, 0, 100, 0);
        x.addDate(5, 5, 0, 70, 0);
        x.buy(0, 0);
        x.buy(1, 1);
        x.buy(2, 0);
        x.buy(3, 1);
        x.buy(4, 0);
        x.buy(4, 0);
        x.offer(2, 150);
        x.exercise(4);
        x.cancel(5);
        x.await(8, 1);
        x.set(0, 0);
        check.due("pass(4)", x.pass(4), 0);
        x.clearText();
        check.due("the list has bought", x.right(6, 1), 8);
        x.await(9, 1);
        check.due("pass(1)", x.pass(1), 3);
        check.due("date(1, 12)", x.date(1, 12), 0);
        check.due("right(1, 3)", x.right(1, 3), 5);
        check.due("right(3, 3)", x.right(3, 3), 5);
        check.due("right(0, 3)", x.right(0, 3), 0);
        event(x, 0, 6, 6, 70, 5);
        event(x, 1, 6, 3, 70, 5);
        event(x, 2, 6, 1, 70, 5);
        check.due("holder(1, 0)", x.holder(1, 0), MORE - 70);
        check.due("pass(3)", x.pass(3), 2);
        event(x, 0, 6, 2, 100, 6);
        event(x, 1, 6, 0, 100, 6);
        check.due("right(2, 4)", x.right(2, 4), -5);
        check.due("right(4, 3)", x.right(4, 3), 2);
        check.due("right(5, 3)", x.right(5, 3), 3);
        check.due("count(8)", x.count(8), 5);
        check.due("date(0, 6)", x.date(0, 6), 1);
        check.due("undo()", x.undo(), 3);
        check.due("all that lapse in several days", x.pass(60), 2);
        check.due("undo()", x.undo(), 3);
        check.due("undo()", x.undo(), 2);
        check.due("all that lapse in several days", x.pass(60), 5);
    }

    private static void passCovers() {
        check.at("promise 13, covering");
        RightsDesk x = deskWith(10, 2, 5, 100, 1);
        for (int i = 0; i < 7; i++) {
            x.buy(i, 0);
        }
        x.offer(1, 180);
        x.offer(4, 60);
        x.offer(5, 60);
        check.due("wouldCover(0)", x.wouldCover(0), 60 + 60 + 180 + 150 + 300);
        check.due("pass(6)", x.pass(6), 0);
        check.due("count(7), 4 days left", x.count(7), 0);
        check.due("pass(1)", x.pass(1), 0);
        check.due("count(7)", x.count(7), 5);
        event(x, 4, 5, 4, 60, 7);
        event(x, 3, 5, 5, 60, 7);
        event(x, 2, 5, 1, 180, 7);
        event(x, 1, 5, 0, 150, 7);
        event(x, 0, 5, 2, 300, 7);
        check.due("right(4, 3)", x.right(4, 3), 4);
        check.due("right(4, 4)", x.right(4, 4), -5);
        check.due("right(3, 3)", x.right(3, 3), 0);
        check.due("right(6, 3)", x.right(6, 3), 0);
        check.due("holder(4, 0)", x.holder(4, 0), MORE - 300 + 60);
        check.due("holder(0, 0)", x.holder(0, 0), MORE - 100 + 150);
        check.due("count(9)", x.count(9), MORE + 1750 - 750);
        check.due("date(0, 6)", x.date(0, 6), 2);
    }

    private static void passCoversHeld() {
        check.at("promise 13, covering held ones");
        RightsDesk x = deskWith(40, 2, 2, 99, 2);
        x.pass(30);
        x.buy(0, 0);
        x.pass(1);
        x.buy(1, 0);
        x.undo();
        x.undo();
        x.buy(1, 0);
        x.buy(2, 0);
        x.buy(3, 0);
        check.due("right(0, 2)", x.right(0, 2), 138);
        check.due("wouldCover(0)", x.wouldCover(0), 414);
        x.set(0, 9);
        x.pass(1);
        event(x, 1, 5, 0, 207, 31);
        event(x, 0, 5, 1, 207, 31);
        check.due("right(2, 3)", x.right(2, 3), 0);
        RightsDesk y = deskWith(40, 1, 2, 99, 2);
        y.pass(19);
        y.buy(0, 0);
        check.due("right(0, 2)", y.right(0, 2), 116);
        y.undo();
        y.pass(1);
        y.buy(0, 0);
        check.due("right(0, 2)", y.right(0, 2), 118);
        y.offer(0, 150);
        y.buyOffered(4, 0);
        y.buy(1, 0);
        y.pass(17);
        check.due("its holder gets it", y.holder(4, 0), MORE - 150 + 177);
        RightsDesk z = deskWith(40, 1, 1, 33, 0);
        z.buy(0, 0);
        z.buy(1, 0);
        z.pass(37);
        check.due("rounded down", z.event(0, 2), 49);
    }

    private static void passCoversOnItsDayAlone() {
        check.at("promise 13, covering on its day alone");
        RightsDesk x = deskWith(10, 1, 2, 100, 0);
        x.buy(0, 0);
        x.buy(1, 0);
        x.buy(2, 0);
        x.pass(6);
        x.set(0, 5);
        x.pass(2);
        check.due("count(7)", x.count(7), 0);
        x.set(0, 1);
        x.pass(1);
        check.due("count(7)", x.count(7), 2);
        RightsDesk y = deskWith(10, 1, 2, 100, 0);
        y.buy(0, 0);
        y.buy(1, 0);
        y.set(0, 0);
        check.due("with 0 days of cover they lapse before", y.pass(20), 2);
        check.due("count(7)", y.count(7), 0);
    }

    private static void passCoversNoExercised() {
        check.at("promise 13, no exercised one is covered");
        RightsDesk x = deskWith(10, 2, 2, 100, 0);
        for (int i = 0; i < 4; i++) {
            x.buy(i, 0);
        }
        x.exercise(0);
        x.exercise(1);
        check.due("wouldCover(0)", x.wouldCover(0), 300);
        x.pass(7);
        check.due("right(0, 3)", x.right(0, 3), 2);
        check.due("right(1, 3)", x.right(1, 3), 2);
        check.due("right(2, 3)", x.right(2, 3), 4);
        check.due("right(3, 3)", x.right(3, 3), 4);
    }

    private static void passLetsListsBuy() {
        check.at("promise 13, lists");
        RightsDesk x = new RightsDesk();
        x.addDate(40, 1, 0, 100, 2);
        x.addDate(30, 2, 0, 100, 1);
        x.await(1, 1);
        x.await(2, 1);
        x.await(3, 1);
        x.await(4, 0);
        check.due("pass(12)", x.pass(12), 0);
        check.due("count(2)", x.count(2), 3);
        int[] holders = {4, 1, 2};
        int[] costs = {100, 100, 150};
        for (int right = 0; right < 3; right++) {
            check.due("right(" + right + ", 1)", x.right(right, 1), holders[right]);
            check.due("right(" + right + ", 2)", x.right(right, 2), costs[right]);
            check.due("right(" + right + ", 5)", x.right(right, 5), 1);
        }
        check.due("waiting(1, 0)", x.waiting(1, 0), 3);
        check.due("date(1, 12)", x.date(1, 12), 1);
        x.pass(18);
        check.due("the list of a date that is over", x.date(1, 12), 0);
        check.due("holder(3, 3)", x.holder(3, 3), 0);
        RightsDesk y = deskWith(4, 3, 0, 100, 2);
        y.await(6, 0);
        y.pass(1);
        check.due("at the price of the new day", y.right(0, 2), 154);
        check.due("who has bought leaves the list", y.date(0, 12), 0);
        y.addDate(60, 20, 0, 7, 0);
        for (int i = 0; i < 6; i++) {
            y.await(9 - i, 1);
        }
        y.pass(1);
        check.due("all six of a list buy on one day", y.count(2), 7);
        check.due("all six of a list buy on one day", y.date(1, 12), 0);
        check.due("the last of the list", y.right(6, 1), 4);
        RightsDesk z = deskWith(1, 3, 0, 100, 2);
        z.await(6, 0);
        z.pass(1);
        check.due("a date that is over sells nothing", z.count(2), 0);
    }

    private static void passInOrder() {
        check.at("promise 13, order");
        RightsDesk x = new RightsDesk();
        x.addDate(8, 1, 1, 100, 0);
        x.addDate(7, 2, 1, 40, 0);
        x.addDate(4, 3, 0, 10, 0);
        x.addDate(7, 1, 1, 50, 0);
        x.buy(0, 2);
        x.buy(1, 1);
        x.buy(1, 1);
        x.buy(1, 1);
        x.buy(2, 3);
        x.buy(2, 3);
        check.due("pass(3)", x.pass(3), 0);
        x.await(5, 1);
        x.await(5, 0);
        check.due("pass(1)", x.pass(1), 1);
        event(x, 4, 0, 5, 50, 0);
        event(x, 3, 6, 0, 10, 4);
        event(x, 2, 5, 1, 60, 4);
        event(x, 1, 5, 4, 75, 4);
        event(x, 0, 0, 6, 100, 4);
        check.due("right(6, 0)", x.right(6, 0), 0);
        check.due("date(1, 12)", x.date(1, 12), 1);
    }
}
