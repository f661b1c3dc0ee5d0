/** Runs of at most 512 calls, made by a row of numbers that is always the same, held against the model. */
public final class ModelTest {
    private static final Check check = new Check();
    private static final int CALLS = 512;
    private static final int RUNS = 1500;
    private static final int[] ODD = {-1, 10, 60, 61, 100, 1000, 10000, Integer.MAX_VALUE, Integer.MIN_VALUE};

    private long seed;
    private RightsDesk desk;
    private DeskModel model;
    private int calls;
    private int far;
    private int dear;

    public static void main(String[] args) {
        for (int run = 0; run < RUNS && check.isRight(); run++) {
            check.at("model, run " + run);
            new ModelTest().run(run);
        }
        check.close();
    }

    private int any(int bound) {
        seed = seed * 6364136223846793005L + 1442695040888963407L;
        return (int) ((seed >>> 33) % bound);
    }

    /** A number below the bound, but for a few odd ones. */
    private int mostly(int bound) {
        return any(40) == 0 ? ODD[any(ODD.length)] : any(bound);
    }

    private void run(int number) {
        seed = number * 7919L + 17;
        any(1);
        desk = new RightsDesk();
        model = new DeskModel();
        calls = 0;
        far = 1 + any(4) * 12;
        dear = 1 + any(4);
        while (calls < CALLS - 80 && check.isRight()) {
            if (any(5) < 2) {
                act();
            } else {
                tell();
            }
        }
        while (calls < CALLS && check.isRight()) {
            tell();
        }
        if (number % 10 == 0) {
            check.holds("not all is alike at the end", Calls.learned(desk).equals(Calls.learned(model)));
        }
    }

    private void same(String call, int got, int want) {
        calls++;
        check.due(call + " as call " + calls, got, want);
    }

    private int someDate() {
        return mostly(Math.max(1, model.count(1)));
    }

    private int someRight() {
        int rights = Math.max(1, model.count(2));
        return any(3) > 0 ? Math.max(0, rights - 1 - any(8)) : mostly(rights);
    }

    private void act() {
        switch (any(26)) {
            case 0: addDate(); break;
            case 1: setStage(); break;
            case 2: set(); break;
            case 3: case 4: case 5: case 6: case 7: case 8: buy(); break;
            case 9: case 10: buyOffered(); break;
            case 11: case 12: cancel(); break;
            case 13: case 14: case 15: offer(); break;
            case 16: takeBack(); break;
            case 17: exercise(); break;
            case 18: case 19: await(); break;
            case 20: leave(); break;
            case 21: pass(); break;
            case 22: undo(); break;
            case 23: keepOrRestore(); break;
            case 24: orders(); break;
            default: if (model.count(1) < 3) { addDate(); } else { buy(); }
        }
    }

    private void addDate() {
        int day = any(8) == 0 ? mostly(1000) : model.count(0) + 1 + any(far + 5);
        int places = any(3) > 0 ? 1 + any(4) : mostly(21);
        int surplus = mostly(6);
        int base = any(2) == 0 ? mostly(10000) : 1 + any(200);
        int rule = mostly(3);
        same("addDate(" + day + ", " + places + ", " + surplus + ", " + base + ", " + rule + ")",
                desk.addDate(day, places, surplus, base, rule), model.addDate(day, places, surplus, base, rule));
    }

    private void setStage() {
        int stage = mostly(4);
        int days = any(4) == 0 ? model.stage(stage, 0) : stage == 3 ? any(2) : mostly(100);
        int fee = any(3) == 0 ? model.stage(stage, 1) : mostly(101);
        same("setStage(" + stage + ", " + days + ", " + fee + ")",
                desk.setStage(stage, days, fee), model.setStage(stage, days, fee));
    }

    private void set() {
        int what = mostly(4);
        int[] most = {10, 51, 61, 10000};
        int value = what >= 0 && what < 4 ? mostly(any(4) == 0 ? most[what] : Math.min(most[what], 25)) : any(10);
        same("set(" + what + ", " + value + ")", desk.set(what, value), model.set(what, value));
    }

    private void buy() {
        int holder = mostly(10);
        int date = someDate();
        same("buy(" + holder + ", " + date + ")", desk.buy(holder, date), model.buy(holder, date));
    }

    private void buyOffered() {
        int holder = mostly(10);
        int date = someDate();
        same("buyOffered(" + holder + ", " + date + ")", desk.buyOffered(holder, date), model.buyOffered(holder, date));
    }

    private void cancel() {
        int right = someRight();
        same("cancel(" + right + ")", desk.cancel(right), model.cancel(right));
    }

    private int somePrice(int right) {
        int base = Math.max(1, model.date(Math.max(0, model.right(right, 0)), 3));
        return any(3) == 0 ? base + any(3) : mostly(2 * base + 2);
    }

    private void offer() {
        int right = someRight();
        int price = somePrice(right);
        same("offer(" + right + ", " + price + ")", desk.offer(right, price), model.offer(right, price));
    }

    private void takeBack() {
        int right = someRight();
        same("takeBack(" + right + ")", desk.takeBack(right), model.takeBack(right));
    }

    private void exercise() {
        int right = someRight();
        same("exercise(" + right + ")", desk.exercise(right), model.exercise(right));
    }

    private void await() {
        int holder = mostly(10);
        int date = someDate();
        same("await(" + holder + ", " + date + ")", desk.await(holder, date), model.await(holder, date));
    }

    private void leave() {
        int holder = mostly(10);
        int date = someDate();
        same("leave(" + holder + ", " + date + ")", desk.leave(holder, date), model.leave(holder, date));
    }

    private void pass() {
        int days = any(4) > 0 ? 1 + any(dear + 2) : mostly(61);
        same("pass(" + days + ")", desk.pass(days), model.pass(days));
    }

    private void undo() {
        int times = 1 + any(3);
        for (int i = 0; i < times; i++) {
            same("undo()", desk.undo(), model.undo());
        }
    }

    private void keepOrRestore() {
        if (any(2) == 0) {
            same("keep()", desk.keep(), model.keep());
        } else {
            same("restore()", desk.restore(), model.restore());
        }
    }

    private void orders() {
        if (any(6) > 0) {
            same("clearText()", desk.clearText(), model.clearText());
        }
        StringBuilder row = new StringBuilder();
        int orders = 1 + any(5);
        for (int i = 0; i < orders; i++) {
            if (i > 0) {
                row.append(';');
            }
            order(row);
        }
        if (any(6) == 0) {
            row.setCharAt(any(row.length()), "bmcxo@=;0123456789 ".charAt(any(19)));
        }
        if (any(10) == 0) {
            row.setLength(any(row.length() + 1));
        }
        for (int i = 0; i < row.length(); i++) {
            same("type('" + row.charAt(i) + "')", desk.type(row.charAt(i)), model.type(row.charAt(i)));
        }
        same("perform() of " + row, desk.perform(), model.perform());
    }

    private void order(StringBuilder row) {
        int right = Math.min(99, Math.max(0, someRight()));
        int date = any(Math.min(10, model.count(1) + 1));
        switch (any(8)) {
            case 0: case 1: case 2: row.append('b').append(any(10)).append('@').append(date); break;
            case 3: row.append('m').append(any(10)).append('@').append(date); break;
            case 4: row.append('c').append(right); break;
            case 5: row.append('x').append(right); break;
            default: row.append('o').append(right).append('=').append(Math.max(1, somePrice(right) % 100000));
        }
    }

    private void tell() {
        switch (any(14)) {
            case 0: case 1: case 2: tellDate(); break;
            case 3: tellWaiting(); break;
            case 4: case 5: case 6: tellRight(); break;
            case 7: tellHolder(); break;
            case 8: tellStage(); break;
            case 9: tellPriceIn(); break;
            case 10: tellWouldCover(); break;
            case 11: case 12: tellEvent(); break;
            default: tellCount();
        }
    }

    private void tellDate() {
        int date = someDate();
        int what = mostly(15);
        same("date(" + date + ", " + what + ")", desk.date(date, what), model.date(date, what));
    }

    private void tellWaiting() {
        int date = someDate();
        int place = mostly(6);
        same("waiting(" + date + ", " + place + ")", desk.waiting(date, place), model.waiting(date, place));
    }

    private void tellRight() {
        int right = someRight();
        int what = mostly(10);
        same("right(" + right + ", " + what + ")", desk.right(right, what), model.right(right, what));
    }

    private void tellHolder() {
        int holder = mostly(10);
        int what = mostly(5);
        same("holder(" + holder + ", " + what + ")", desk.holder(holder, what), model.holder(holder, what));
    }

    private void tellStage() {
        int stage = mostly(4);
        int what = mostly(3);
        same("stage(" + stage + ", " + what + ")", desk.stage(stage, what), model.stage(stage, what));
    }

    private void tellPriceIn() {
        int date = someDate();
        int days = any(2) == 0 ? any(10) : mostly(61);
        same("priceIn(" + date + ", " + days + ")", desk.priceIn(date, days), model.priceIn(date, days));
    }

    private void tellWouldCover() {
        int date = someDate();
        same("wouldCover(" + date + ")", desk.wouldCover(date), model.wouldCover(date));
    }

    private void tellEvent() {
        int back = mostly(11);
        int what = mostly(5);
        same("event(" + back + ", " + what + ")", desk.event(back, what), model.event(back, what));
    }

    private void tellCount() {
        int what = mostly(17);
        same("count(" + what + ")", desk.count(what), model.count(what));
    }
}
