/** Options on bookings: dates, rights, fees, resale, waiting lists, accounts, orders as texts, and a history. */
public final class RightsDesk {
    /** There is no such date, right, holder or stage. */
    public static final int UNKNOWN = -1;
    /** Another argument is out of range. */
    public static final int BAD_VALUE = -2;
    /** There is no more room, or no more can be sold. */
    public static final int FULL = -3;
    /** This is not possible. */
    public static final int NOT_POSSIBLE = -4;
    /** There is no such thing; not an error. */
    public static final int NONE = -5;

    private static final int HOLDERS = 10;
    private static final int MOST_DATES = 10;
    private static final int MOST_RIGHTS = 60;
    private static final int MOST_WAITING = 6;
    private static final int MOST_EVENTS = 10;
    private static final int MOST_STATES = 4;
    private static final int MOST_SIGNS = 60;
    private static final int MOST_PRICE_DIGITS = 5;
    private static final int MOST_DAYS_AT_ONCE = 60;
    private static final int LAST_DAY = 9999;
    private static final int LAST_DAY_OF_A_DATE = 999;
    private static final int MOST_STAGE_DAYS = 99;
    private static final int TOLD_MORE = 1000000000;
    private static final int FAULT = -100;

    private static final int COVER_DAYS = 0;
    private static final int COMMISSION = 1;
    private static final int WINDOW = 2;
    private static final int STRIKE = 3;
    private static final int[] FIRST_NUMBERS = {3, 10, 20, 500};
    private static final int[] LEAST_NUMBERS = {0, 0, 1, 0};
    private static final int[] MOST_NUMBERS = {9, 50, 60, 9999};

    private static final int[] FIRST_STAGE_DAYS = {30, 14, 7, 0};
    private static final int[] FIRST_STAGE_FEES = {10, 30, 60, 100};

    private static final int HELD = 0;
    private static final int OFFERED = 1;
    private static final int EXERCISED = 2;
    private static final int CANCELLED = 3;
    private static final int COVERED = 4;
    private static final int LAPSED = 5;

    private static final int SALE = 0;
    private static final int RESALE = 1;
    private static final int OFFER = 2;
    private static final int EXERCISE = 3;
    private static final int CANCELLATION = 4;
    private static final int COVER = 5;
    private static final int LAPSE = 6;

    private static final int BY_RIGHTS_OUT = 1;
    private static final int BY_DAYS_LEFT = 2;

    private final State now = new State();
    private final State kept = new State();
    private boolean hasKept;
    private final History history = new History();
    private final OrderText text = new OrderText();

    /** Creates a desk without dates, on the day 0. */
    public RightsDesk() {
    }

    // ---- dates and settings

    public int addDate(int day, int places, int surplus, int base, int rule) {
        history.prepare(now);
        return history.settle(now.openDate(day, places, surplus, base, rule));
    }

    public int setStage(int stage, int days, int fee) {
        history.prepare(now);
        return history.settle(now.changeStage(stage, days, fee));
    }

    public int set(int what, int value) {
        history.prepare(now);
        return history.settle(now.changeNumber(what, value));
    }

    // ---- rights

    public int buy(int holder, int date) {
        history.prepare(now);
        return history.settle(now.sellTo(holder, date));
    }

    public int buyOffered(int holder, int date) {
        history.prepare(now);
        return history.settle(now.resellTo(holder, date));
    }

    public int cancel(int right) {
        history.prepare(now);
        return history.settle(now.cancelRight(right));
    }

    public int offer(int right, int price) {
        history.prepare(now);
        return history.settle(now.offerRight(right, price));
    }

    public int takeBack(int right) {
        history.prepare(now);
        return history.settle(now.withdrawOffer(right));
    }

    public int exercise(int right) {
        history.prepare(now);
        return history.settle(now.exerciseRight(right));
    }

    public int await(int holder, int date) {
        history.prepare(now);
        return history.settle(now.joinList(holder, date));
    }

    public int leave(int holder, int date) {
        history.prepare(now);
        return history.settle(now.quitList(holder, date));
    }

    public int pass(int days) {
        history.prepare(now);
        return history.settle(now.passDays(days));
    }

    // ---- texts

    public int type(char character) {
        return text.append(character);
    }

    public int clearText() {
        return text.empty();
    }

    public int perform() {
        int orders = text.countOrders();
        if (orders < 0) {
            return orders;
        }
        history.prepare(now);
        text.goToStart();
        for (int done = 0; done < orders; done++) {
            int answer = performNext();
            if (answer < 0) {
                now.copyFrom(history.prepared);
                return answer;
            }
        }
        return history.settle(orders);
    }

    // ---- history

    public int undo() {
        State latest = history.takeLatest();
        if (latest == null) {
            return NONE;
        }
        now.copyFrom(latest);
        return history.count;
    }

    public int keep() {
        kept.copyFrom(now);
        hasKept = true;
        return now.day;
    }

    public int restore() {
        if (!hasKept) {
            return NONE;
        }
        history.prepare(now);
        now.copyFrom(kept);
        return history.settle(now.day);
    }

    // ---- what is told

    public int date(int date, int what) {
        DateRow row = now.dateRow(date);
        return row == null ? UNKNOWN : now.tellOfDate(row, what);
    }

    public int waiting(int date, int place) {
        DateRow row = now.dateRow(date);
        if (row == null) {
            return UNKNOWN;
        }
        if (place < 0) {
            return BAD_VALUE;
        }
        return row.waitingAt(place);
    }

    public int right(int right, int what) {
        RightRow row = now.rightRow(right);
        return row == null ? UNKNOWN : now.tellOfRight(row, what);
    }

    public int holder(int holder, int what) {
        return isHolder(holder) ? now.tellOfHolder(holder, what) : UNKNOWN;
    }

    public int stage(int stage, int what) {
        return now.tellOfStage(stage, what);
    }

    public int priceIn(int date, int days) {
        DateRow row = now.dateRow(date);
        if (row == null) {
            return UNKNOWN;
        }
        if (days < 0 || days > MOST_DAYS_AT_ONCE) {
            return BAD_VALUE;
        }
        int left = now.daysLeft(row) - days;
        return left < 1 ? NONE : row.priceFor(now.rightsOut(row), left);
    }

    public int wouldCover(int date) {
        DateRow row = now.dateRow(date);
        if (row == null) {
            return UNKNOWN;
        }
        if (now.daysLeft(row) <= now.numbers[COVER_DAYS]) {
            return NONE;
        }
        // The covering is tried on a copy, so that it can't differ from the covering of a day.
        history.prepare(now);
        return history.prepared.coverRightsOf(row);
    }

    public int event(int back, int what) {
        if (back < 0 || what < 0 || what > 3) {
            return BAD_VALUE;
        }
        EventRow row = now.eventRow(back);
        return row == null ? NONE : row.tell(what);
    }

    public int count(int what) {
        if (what == 14) {
            return history.count;
        }
        if (what == 15) {
            return text.length;
        }
        return now.tellCount(what);
    }

    private int performNext() {
        text.readOrder();
        text.skip(';');
        switch (text.kind) {
            case 'b':
                return now.sellTo(text.first, text.second);
            case 'm':
                return now.resellTo(text.first, text.second);
            case 'c':
                return now.cancelRight(text.first);
            case 'x':
                return now.exerciseRight(text.first);
            default:
                return now.offerRight(text.first, text.second);
        }
    }

    private static boolean isHolder(int holder) {
        return holder >= 0 && holder < HOLDERS;
    }

    private static void copyAll(int[] from, int[] to) {
        for (int i = 0; i < from.length && i < to.length; i++) {
            to[i] = from[i];
        }
    }

    private static final class DateRow {
        final int number;
        int day;
        int places;
        int surplus;
        int base;
        int rule;
        final int[] list = new int[MOST_WAITING];
        int listLength;

        DateRow(int number) {
            this.number = number;
        }

        void copyFrom(DateRow other) {
            day = other.day;
            places = other.places;
            surplus = other.surplus;
            base = other.base;
            rule = other.rule;
            copyAll(other.list, list);
            listLength = other.listLength;
        }

        int priceFor(int rightsOut, int daysLeft) {
            if (rule == BY_RIGHTS_OUT && places > 0) {
                return base + base * rightsOut / places;
            }
            if (rule == BY_DAYS_LEFT) {
                int late = daysLeft < 30 ? 30 - daysLeft : 0;
                return base * (100 + 2 * late) / 100;
            }
            return base;
        }

        int waitingAt(int place) {
            return place >= 0 && place < listLength && place < list.length ? list[place] : NONE;
        }

        int placeOf(int holder) {
            for (int i = 0; i < listLength && i < list.length; i++) {
                if (list[i] == holder) {
                    return i;
                }
            }
            return NONE;
        }

        int appendToList(int holder) {
            if (listLength >= list.length) {
                return FULL;
            }
            list[listLength] = holder;
            listLength++;
            return listLength;
        }

        void removeFromList(int place) {
            if (place < 0 || place >= listLength) {
                return;
            }
            listLength--;
            for (int i = place; i < listLength && i + 1 < list.length; i++) {
                list[i] = list[i + 1];
            }
        }
    }

    private static final class RightRow {
        final int number;
        int date;
        int holder;
        int cost;
        int state;
        /** 0 as long as the right is not offered. */
        int asking;
        int soldOn;
        int resold;

        RightRow(int number) {
            this.number = number;
        }

        void copyFrom(RightRow other) {
            date = other.date;
            holder = other.holder;
            cost = other.cost;
            state = other.state;
            asking = other.asking;
            soldOn = other.soldOn;
            resold = other.resold;
        }

        boolean isHeldOrOffered() {
            return state == HELD || state == OFFERED;
        }

        void turnTo(int newState, int newAsking) {
            state = newState;
            asking = newAsking;
        }
    }

    private static final class EventRow {
        int kind;
        int right;
        int cents;
        int day;

        void copyFrom(EventRow other) {
            kind = other.kind;
            right = other.right;
            cents = other.cents;
            day = other.day;
        }

        int tell(int what) {
            switch (what) {
                case 0:
                    return kind;
                case 1:
                    return right;
                case 2:
                    return cents;
                default:
                    return day;
            }
        }
    }

    /** Everything that undo() and restore() bring back. */
    private static final class State {
        int day;
        final int[] numbers = FIRST_NUMBERS.clone();
        final int[] stageDays = FIRST_STAGE_DAYS.clone();
        final int[] stageFees = FIRST_STAGE_FEES.clone();
        int dateCount;
        final DateRow[] dates = new DateRow[MOST_DATES];
        int rightCount;
        final RightRow[] rights = new RightRow[MOST_RIGHTS];
        final int[] accounts = new int[HOLDERS];
        int provider;
        int eventCount;
        /** The latest event comes first. */
        final EventRow[] events = new EventRow[MOST_EVENTS];

        State() {
            for (int i = 0; i < dates.length; i++) {
                dates[i] = new DateRow(i);
            }
            for (int i = 0; i < rights.length; i++) {
                rights[i] = new RightRow(i);
            }
            for (int i = 0; i < events.length; i++) {
                events[i] = new EventRow();
            }
        }

        void copyFrom(State other) {
            day = other.day;
            copyAll(other.numbers, numbers);
            copyAll(other.stageDays, stageDays);
            copyAll(other.stageFees, stageFees);
            dateCount = other.dateCount;
            for (int i = 0; i < dates.length; i++) {
                dates[i].copyFrom(other.dates[i]);
            }
            rightCount = other.rightCount;
            for (int i = 0; i < rights.length; i++) {
                rights[i].copyFrom(other.rights[i]);
            }
            copyAll(other.accounts, accounts);
            provider = other.provider;
            eventCount = other.eventCount;
            for (int i = 0; i < events.length; i++) {
                events[i].copyFrom(other.events[i]);
            }
        }

        DateRow dateRow(int number) {
            return number >= 0 && number < dateCount && number < dates.length ? dates[number] : null;
        }

        RightRow rightRow(int number) {
            return number >= 0 && number < rightCount && number < rights.length ? rights[number] : null;
        }

        EventRow eventRow(int back) {
            return back >= 0 && back < eventCount && back < events.length ? events[back] : null;
        }

        // ---- acts: each answers like the public method for it, and changes nothing if it answers below 0

        int openDate(int onDay, int places, int surplus, int base, int rule) {
            if (onDay <= day || onDay > LAST_DAY_OF_A_DATE || places < 1 || places > 20) {
                return BAD_VALUE;
            }
            if (surplus < 0 || surplus > 5 || base < 1 || base > 9999 || rule < 0 || rule > 2) {
                return BAD_VALUE;
            }
            if (dateCount >= dates.length) {
                return FULL;
            }
            DateRow row = dates[dateCount];
            row.day = onDay;
            row.places = places;
            row.surplus = surplus;
            row.base = base;
            row.rule = rule;
            row.listLength = 0;
            dateCount++;
            return row.number;
        }

        int changeStage(int stage, int days, int fee) {
            if (!isStage(stage)) {
                return UNKNOWN;
            }
            if (!fitsStage(stage, days) || fee < 0 || fee > 100) {
                return BAD_VALUE;
            }
            int previous = stageFees[stage];
            if (stageDays[stage] == days && previous == fee) {
                return NONE;
            }
            stageDays[stage] = days;
            stageFees[stage] = fee;
            return previous;
        }

        private boolean isStage(int stage) {
            return stage >= 0 && stage < stageDays.length;
        }

        private boolean fitsStage(int stage, int days) {
            int most = isStage(stage - 1) ? stageDays[stage - 1] - 1 : MOST_STAGE_DAYS;
            if (!isStage(stage + 1)) {
                return days == 0;
            }
            return days <= most && days > stageDays[stage + 1];
        }

        int changeNumber(int what, int value) {
            if (what < 0 || what >= numbers.length) {
                return BAD_VALUE;
            }
            if (value < LEAST_NUMBERS[what] || value > MOST_NUMBERS[what]) {
                return BAD_VALUE;
            }
            int previous = numbers[what];
            if (previous == value) {
                return NONE;
            }
            numbers[what] = value;
            return previous;
        }

        int sellTo(int holder, int date) {
            DateRow row = dateRow(date);
            if (!isHolder(holder) || row == null) {
                return UNKNOWN;
            }
            if (!isOpen(row)) {
                return NOT_POSSIBLE;
            }
            return sell(holder, row);
        }

        int resellTo(int holder, int date) {
            DateRow row = dateRow(date);
            if (!isHolder(holder) || row == null) {
                return UNKNOWN;
            }
            RightRow cheapest = cheapestOffered(row);
            if (cheapest == null || cheapest.holder == holder) {
                return NOT_POSSIBLE;
            }
            int price = cheapest.asking;
            give(holder, -price);
            give(cheapest.holder, price - price * numbers[COMMISSION] / 100);
            cheapest.holder = holder;
            cheapest.resold++;
            cheapest.turnTo(HELD, 0);
            log(RESALE, cheapest, price);
            return cheapest.number;
        }

        int cancelRight(int right) {
            RightRow row = rightRow(right);
            if (row == null) {
                return UNKNOWN;
            }
            int back = refund(row);
            DateRow ofDate = dateRow(row.date);
            if (back == NONE || ofDate == null) {
                return NOT_POSSIBLE;
            }
            row.turnTo(CANCELLED, 0);
            give(row.holder, back);
            log(CANCELLATION, row, back);
            letListBuy(ofDate);
            return back;
        }

        int offerRight(int right, int price) {
            RightRow row = rightRow(right);
            if (row == null) {
                return UNKNOWN;
            }
            DateRow ofDate = dateRow(row.date);
            if (!row.isHeldOrOffered() || ofDate == null) {
                return NOT_POSSIBLE;
            }
            if (price < 1 || price > 2 * ofDate.base) {
                return BAD_VALUE;
            }
            int previous = row.asking;
            if (previous == price) {
                return NONE;
            }
            row.turnTo(OFFERED, price);
            log(OFFER, row, price);
            return previous;
        }

        int withdrawOffer(int right) {
            RightRow row = rightRow(right);
            if (row == null) {
                return UNKNOWN;
            }
            if (row.state != OFFERED) {
                return NOT_POSSIBLE;
            }
            int previous = row.asking;
            row.turnTo(HELD, 0);
            return previous;
        }

        int exerciseRight(int right) {
            RightRow row = rightRow(right);
            if (row == null) {
                return UNKNOWN;
            }
            DateRow ofDate = dateRow(row.date);
            if (ofDate == null || !canBeExercised(row, ofDate)) {
                return NOT_POSSIBLE;
            }
            int strike = numbers[STRIKE];
            row.turnTo(EXERCISED, 0);
            give(row.holder, -strike);
            log(EXERCISE, row, strike);
            return rightsIn(ofDate, EXERCISED);
        }

        int joinList(int holder, int date) {
            DateRow row = dateRow(date);
            if (!isHolder(holder) || row == null) {
                return UNKNOWN;
            }
            if (!isOpen(row) || row.placeOf(holder) >= 0) {
                return NOT_POSSIBLE;
            }
            return row.appendToList(holder);
        }

        int quitList(int holder, int date) {
            DateRow row = dateRow(date);
            if (!isHolder(holder) || row == null) {
                return UNKNOWN;
            }
            int place = row.placeOf(holder);
            row.removeFromList(place);
            return place;
        }

        int passDays(int days) {
            if (days < 1 || days > MOST_DAYS_AT_ONCE) {
                return BAD_VALUE;
            }
            if (day + days > LAST_DAY) {
                return NOT_POSSIBLE;
            }
            int lapsed = 0;
            for (int i = 0; i < days; i++) {
                lapsed += passOneDay();
            }
            return lapsed;
        }

        // ---- a day

        private int passOneDay() {
            day++;
            int lapsed = 0;
            for (int i = 0; i < dateCount && i < dates.length; i++) {
                if (daysLeft(dates[i]) == 0) {
                    lapsed += endDate(dates[i]);
                }
            }
            for (int i = 0; i < dateCount && i < dates.length; i++) {
                if (daysLeft(dates[i]) == numbers[COVER_DAYS]) {
                    coverRightsOf(dates[i]);
                }
            }
            for (int i = 0; i < dateCount && i < dates.length; i++) {
                if (isOpen(dates[i])) {
                    letListBuy(dates[i]);
                }
            }
            return lapsed;
        }

        private int endDate(DateRow row) {
            int lapsed = 0;
            for (int i = 0; i < rightCount && i < rights.length; i++) {
                if (rights[i].date == row.number && rights[i].isHeldOrOffered()) {
                    rights[i].turnTo(LAPSED, 0);
                    log(LAPSE, rights[i], rights[i].cost);
                    lapsed++;
                }
            }
            row.listLength = 0;
            return lapsed;
        }

        /** Answers what the provider pays in all. */
        int coverRightsOf(DateRow row) {
            int paid = 0;
            int tooMany = rightsOut(row) - row.places;
            for (int i = 0; i < tooMany; i++) {
                RightRow next = nextToCover(row);
                if (next == null) {
                    return paid;
                }
                paid += coverOne(next);
            }
            return paid;
        }

        private int coverOne(RightRow row) {
            int cents = row.state == OFFERED ? row.asking : row.cost * 3 / 2;
            row.turnTo(COVERED, 0);
            give(row.holder, cents);
            log(COVER, row, cents);
            return cents;
        }

        private RightRow nextToCover(DateRow row) {
            RightRow offered = cheapestOffered(row);
            return offered == null ? cheapestHeld(row) : offered;
        }

        private void letListBuy(DateRow row) {
            for (int i = 0; i < MOST_WAITING && row.listLength > 0; i++) {
                if (sell(row.waitingAt(0), row) < 0) {
                    return;
                }
                row.removeFromList(0);
            }
        }

        // ---- the provider, the accounts and the log

        private int sell(int holder, DateRow row) {
            if (sellable(row) < 1 || rightCount >= rights.length) {
                return FULL;
            }
            int price = priceNow(row);
            RightRow sold = rights[rightCount];
            rightCount++;
            sold.date = row.number;
            sold.holder = holder;
            sold.cost = price;
            sold.soldOn = day;
            sold.resold = 0;
            sold.turnTo(HELD, 0);
            give(holder, -price);
            log(SALE, sold, price);
            return sold.number;
        }

        private int sellable(DateRow row) {
            if (!isOpen(row)) {
                return 0;
            }
            int most = row.places;
            if (daysLeft(row) > numbers[COVER_DAYS]) {
                most += row.surplus;
            }
            return Math.max(0, Math.min(most - rightsOut(row), MOST_RIGHTS - rightCount));
        }

        private int priceNow(DateRow row) {
            return row.priceFor(rightsOut(row), daysLeft(row));
        }

        private void give(int holder, int cents) {
            if (isHolder(holder)) {
                accounts[holder] += cents;
                provider -= cents;
            }
        }

        private void log(int kind, RightRow of, int cents) {
            EventRow row = events[MOST_EVENTS - 1];
            for (int i = MOST_EVENTS - 1; i > 0; i--) {
                events[i] = events[i - 1];
            }
            events[0] = row;
            row.kind = kind;
            row.right = of.number;
            row.cents = cents;
            row.day = day;
            eventCount = Math.min(eventCount + 1, MOST_EVENTS);
        }

        // ---- what is counted and looked for

        int daysLeft(DateRow row) {
            return row.day - day;
        }

        private boolean isOpen(DateRow row) {
            return row.day > day;
        }

        int rightsOut(DateRow row) {
            int found = 0;
            for (int i = 0; i < rightCount && i < rights.length; i++) {
                // The states behind EXERCISED are those of rights that are no longer out.
                if (rights[i].date == row.number && rights[i].state <= EXERCISED) {
                    found++;
                }
            }
            return found;
        }

        private int rightsIn(DateRow row, int state) {
            int found = 0;
            for (int i = 0; i < rightCount && i < rights.length; i++) {
                if (rights[i].date == row.number && rights[i].state == state) {
                    found++;
                }
            }
            return found;
        }

        private int rightsInAll(int state) {
            int found = 0;
            for (int i = 0; i < rightCount && i < rights.length; i++) {
                if (rights[i].state == state) {
                    found++;
                }
            }
            return found;
        }

        private RightRow cheapestOffered(DateRow row) {
            RightRow cheapest = null;
            for (int i = 0; i < rightCount && i < rights.length; i++) {
                RightRow next = rights[i];
                if (next.date == row.number && next.state == OFFERED
                        && (cheapest == null || next.asking < cheapest.asking)) {
                    cheapest = next;
                }
            }
            return cheapest;
        }

        private RightRow cheapestHeld(DateRow row) {
            RightRow cheapest = null;
            for (int i = 0; i < rightCount && i < rights.length; i++) {
                RightRow next = rights[i];
                if (next.date == row.number && next.state == HELD
                        && (cheapest == null || next.cost < cheapest.cost)) {
                    cheapest = next;
                }
            }
            return cheapest;
        }

        private int stageOf(DateRow row) {
            for (int i = 0; i < stageDays.length && isOpen(row); i++) {
                if (stageDays[i] <= daysLeft(row)) {
                    return i;
                }
            }
            return NONE;
        }

        private int refund(RightRow row) {
            DateRow ofDate = dateRow(row.date);
            if (ofDate == null || !row.isHeldOrOffered()) {
                return NONE;
            }
            int stage = stageOf(ofDate);
            return isStage(stage) ? row.cost - row.cost * stageFees[stage] / 100 : NONE;
        }

        private boolean canBeExercised(RightRow row, DateRow ofDate) {
            return row.state == HELD && isOpen(ofDate) && daysLeft(ofDate) <= numbers[WINDOW]
                    && rightsIn(ofDate, EXERCISED) < ofDate.places;
        }

        // ---- what is told

        int tellOfDate(DateRow row, int what) {
            switch (what) {
                case 0:
                    return row.day;
                case 1:
                    return row.places;
                case 2:
                    return row.surplus;
                case 3:
                    return row.base;
                case 4:
                    return row.rule;
                case 5:
                    return Math.max(0, daysLeft(row));
                case 6:
                    return rightsOut(row);
                case 7:
                    return rightsIn(row, EXERCISED);
                case 8:
                    return rightsIn(row, OFFERED);
                case 9:
                    return priceNow(row);
                case 10:
                    return sellable(row);
                case 11:
                    return stageOf(row);
                case 12:
                    return row.listLength;
                case 13:
                    return lowestAsking(row);
                default:
                    return BAD_VALUE;
            }
        }

        private int lowestAsking(DateRow row) {
            RightRow cheapest = cheapestOffered(row);
            return cheapest == null ? NONE : cheapest.asking;
        }

        int tellOfRight(RightRow row, int what) {
            switch (what) {
                case 0:
                    return row.date;
                case 1:
                    return row.holder;
                case 2:
                    return row.cost;
                case 3:
                    return row.state;
                case 4:
                    return row.state == OFFERED ? row.asking : NONE;
                case 5:
                    return row.soldOn;
                case 6:
                    return row.resold;
                case 7:
                    return refund(row);
                case 8:
                    return tellExercisable(row);
                default:
                    return BAD_VALUE;
            }
        }

        private int tellExercisable(RightRow row) {
            DateRow ofDate = dateRow(row.date);
            return ofDate != null && canBeExercised(row, ofDate) ? 1 : 0;
        }

        int tellOfHolder(int holder, int what) {
            switch (what) {
                case 0:
                    return isHolder(holder) ? TOLD_MORE + accounts[holder] : UNKNOWN;
                case 1:
                    return rightsOfHolder(holder, HELD) + rightsOfHolder(holder, OFFERED);
                case 2:
                    return rightsOfHolder(holder, EXERCISED);
                case 3:
                    return listsWith(holder);
                default:
                    return BAD_VALUE;
            }
        }

        private int rightsOfHolder(int holder, int state) {
            int found = 0;
            for (int i = 0; i < rightCount && i < rights.length; i++) {
                if (rights[i].holder == holder && rights[i].state == state) {
                    found++;
                }
            }
            return found;
        }

        private int listsWith(int holder) {
            int found = 0;
            for (int i = 0; i < dateCount && i < dates.length; i++) {
                if (dates[i].placeOf(holder) >= 0) {
                    found++;
                }
            }
            return found;
        }

        int tellOfStage(int stage, int what) {
            if (!isStage(stage)) {
                return UNKNOWN;
            }
            if (what == 0) {
                return stageDays[stage];
            }
            return what == 1 ? stageFees[stage] : BAD_VALUE;
        }

        int tellCount(int what) {
            if (what >= 3 && what <= 8) {
                return rightsInAll(what - 3);
            }
            if (what >= 10 && what <= 13) {
                return numbers[what - 10];
            }
            switch (what) {
                case 0:
                    return day;
                case 1:
                    return dateCount;
                case 2:
                    return rightCount;
                case 9:
                    return TOLD_MORE + provider;
                default:
                    return BAD_VALUE;
            }
        }
    }

    private static final class History {
        /** The latest state comes first; the rows behind the last one wait to be used again. */
        final State[] past = new State[MOST_STATES];
        int count;
        State prepared = new State();

        History() {
            for (int i = 0; i < past.length; i++) {
                past[i] = new State();
            }
        }

        void prepare(State state) {
            prepared.copyFrom(state);
        }

        /** An answer below 0 is an error or NONE, of which the history keeps nothing. */
        int settle(int answer) {
            if (answer < 0) {
                return answer;
            }
            State oldest = past[MOST_STATES - 1];
            for (int i = MOST_STATES - 1; i > 0; i--) {
                past[i] = past[i - 1];
            }
            past[0] = prepared;
            prepared = oldest;
            count = Math.min(count + 1, MOST_STATES);
            return answer;
        }

        State takeLatest() {
            if (count == 0) {
                return null;
            }
            State latest = past[0];
            for (int i = 0; i + 1 < MOST_STATES; i++) {
                past[i] = past[i + 1];
            }
            past[MOST_STATES - 1] = latest;
            count--;
            return latest;
        }
    }

    /** The text, and a reader that goes through its orders. */
    private static final class OrderText {
        final char[] signs = new char[MOST_SIGNS];
        int length;
        int at;
        int kind;
        int first;
        int second;

        int append(char sign) {
            if (length >= signs.length) {
                return FULL;
            }
            signs[length] = sign;
            length++;
            return length;
        }

        int empty() {
            int previous = length;
            length = 0;
            return previous;
        }

        /** Answers how many orders there are, or FAULT less the place of the fault. */
        int countOrders() {
            goToStart();
            int orders = 0;
            boolean more = true;
            for (int i = 0; i < MOST_SIGNS && more; i++) {
                if (!readOrder()) {
                    return FAULT - at;
                }
                orders++;
                more = skip(';');
            }
            return at == length ? orders : FAULT - at;
        }

        void goToStart() {
            at = 0;
        }

        /** Stops at the place of the fault if there is one, and answers whether there is none. */
        boolean readOrder() {
            kind = here();
            if (skip('b') || skip('m')) {
                return readHolderAndDate();
            }
            if (skip('c') || skip('x')) {
                return readRight();
            }
            return skip('o') && readRight() && skip('=') && readPrice();
        }

        boolean skip(char sign) {
            if (here() != sign) {
                return false;
            }
            at++;
            return true;
        }

        private boolean readHolderAndDate() {
            if (!isDigitHere()) {
                return false;
            }
            first = takeDigit();
            if (!skip('@') || !isDigitHere()) {
                return false;
            }
            second = takeDigit();
            return true;
        }

        private boolean readRight() {
            if (!isDigitHere()) {
                return false;
            }
            first = takeDigit();
            if (first > 0 && isDigitHere()) {
                first = first * 10 + takeDigit();
            }
            return true;
        }

        private boolean readPrice() {
            if (here() == '0' || !isDigitHere()) {
                return false;
            }
            second = 0;
            for (int i = 0; i < MOST_PRICE_DIGITS && isDigitHere(); i++) {
                second = second * 10 + takeDigit();
            }
            return true;
        }

        private boolean isDigitHere() {
            return here() >= '0' && here() <= '9';
        }

        private int takeDigit() {
            int digit = here() - '0';
            at++;
            return digit;
        }

        // The sign 0 is allowed nowhere, so it can stand for the end of the text too.
        private char here() {
            return at >= 0 && at < length && at < signs.length ? signs[at] : (char) 0;
        }
    }
}
