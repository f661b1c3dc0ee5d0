import java.util.ArrayDeque;
import java.util.ArrayList;
import java.util.Comparator;
import java.util.Deque;
import java.util.List;
import java.util.regex.Matcher;
import java.util.regex.Pattern;

/** The document told once more, by lists, streams and patterns; it shares no line with the class that it is held against. */
final class DeskModel {
    private static final int UNKNOWN = -1;
    private static final int BAD = -2;
    private static final int FULL = -3;
    private static final int NOT = -4;
    private static final int NONE = -5;
    private static final Pattern ROW =
            Pattern.compile("([bm][0-9]@[0-9]|[cx](0|[1-9][0-9]?)|o(0|[1-9][0-9]?)=[1-9][0-9]{0,4})"
                    + "(;([bm][0-9]@[0-9]|[cx](0|[1-9][0-9]?)|o(0|[1-9][0-9]?)=[1-9][0-9]{0,4}))*");

    enum Kind { HELD, OFFERED, EXERCISED, CANCELLED, COVERED, LAPSED }

    record Deal(int id, int date, int holder, int cost, Kind kind, int asking, int soldOn, int resold) {
        Deal as(Kind newKind, int newAsking) {
            return new Deal(id, date, holder, cost, newKind, newAsking, soldOn, resold);
        }

        Deal to(int newHolder) {
            return new Deal(id, date, newHolder, cost, Kind.HELD, NONE, soldOn, resold + 1);
        }

        boolean live() {
            return kind.ordinal() < 2;
        }

        boolean out() {
            return kind.ordinal() < 3;
        }
    }

    record Trip(int id, int day, int places, int surplus, int base, int rule) { }

    static final class World {
        int day;
        List<Trip> trips = new ArrayList<>();
        List<List<Integer>> lists = new ArrayList<>();
        List<Deal> deals = new ArrayList<>();
        List<int[]> transfers = new ArrayList<>();
        List<int[]> events = new ArrayList<>();
        List<int[]> stages = new ArrayList<>(List.of(
                new int[] {30, 10}, new int[] {14, 30}, new int[] {7, 60}, new int[] {0, 100}));
        List<Integer> numbers = new ArrayList<>(List.of(3, 10, 20, 500));

        World copy() {
            World other = new World();
            other.day = day;
            other.trips = new ArrayList<>(trips);
            for (List<Integer> list : lists) {
                other.lists.add(new ArrayList<>(list));
            }
            other.deals = new ArrayList<>(deals);
            other.transfers = new ArrayList<>(transfers);
            other.events = new ArrayList<>(events);
            other.stages = new ArrayList<>(stages);
            other.numbers = new ArrayList<>(numbers);
            return other;
        }
    }

    private World w = new World();
    private final Deque<World> past = new ArrayDeque<>();
    private World snapshot;
    private String text = "";

    // ---- acts

    private interface Act {
        int run();
    }

    private int act(Act act) {
        World before = w.copy();
        int answer = act.run();
        if (answer < 0) {
            w = before;
        } else {
            past.push(before);
            while (past.size() > 4) {
                past.removeLast();
            }
        }
        return answer;
    }

    int addDate(int day, int places, int surplus, int base, int rule) {
        return act(() -> {
            if (!(in(day, w.day + 1, 999) && in(places, 1, 20) && in(surplus, 0, 5) && in(base, 1, 9999) && in(rule, 0, 2))) {
                return BAD;
            }
            if (w.trips.size() == 10) {
                return FULL;
            }
            w.trips.add(new Trip(w.trips.size(), day, places, surplus, base, rule));
            w.lists.add(new ArrayList<>());
            return w.trips.size() - 1;
        });
    }

    int setStage(int stage, int days, int fee) {
        return act(() -> {
            if (!in(stage, 0, 3)) {
                return UNKNOWN;
            }
            int high = stage == 0 ? 99 : w.stages.get(stage - 1)[0] - 1;
            int low = stage == 3 ? 0 : w.stages.get(stage + 1)[0] + 1;
            if (stage == 3) {
                high = 0;
            }
            if (!in(days, low, high) || !in(fee, 0, 100)) {
                return BAD;
            }
            int[] old = w.stages.get(stage);
            if (old[0] == days && old[1] == fee) {
                return NONE;
            }
            w.stages.set(stage, new int[] {days, fee});
            return old[1];
        });
    }

    int set(int what, int value) {
        return act(() -> {
            boolean good = what == 0 && in(value, 0, 9) || what == 1 && in(value, 0, 50)
                    || what == 2 && in(value, 1, 60) || what == 3 && in(value, 0, 9999);
            if (!good) {
                return BAD;
            }
            return w.numbers.get(what) == value ? NONE : w.numbers.set(what, value);
        });
    }

    int buy(int holder, int date) {
        return act(() -> doBuy(holder, date));
    }

    int buyOffered(int holder, int date) {
        return act(() -> doBuyOffered(holder, date));
    }

    int cancel(int right) {
        return act(() -> doCancel(right));
    }

    int offer(int right, int price) {
        return act(() -> doOffer(right, price));
    }

    int exercise(int right) {
        return act(() -> doExercise(right));
    }

    int takeBack(int right) {
        return act(() -> {
            if (!in(right, 0, w.deals.size() - 1)) {
                return UNKNOWN;
            }
            Deal deal = w.deals.get(right);
            if (deal.kind != Kind.OFFERED) {
                return NOT;
            }
            w.deals.set(right, deal.as(Kind.HELD, NONE));
            return deal.asking;
        });
    }

    int await(int holder, int date) {
        return act(() -> {
            if (!in(holder, 0, 9) || !in(date, 0, w.trips.size() - 1)) {
                return UNKNOWN;
            }
            if (left(date) < 1 || w.lists.get(date).contains(holder)) {
                return NOT;
            }
            if (w.lists.get(date).size() == 6) {
                return FULL;
            }
            w.lists.get(date).add(holder);
            return w.lists.get(date).size();
        });
    }

    int leave(int holder, int date) {
        return act(() -> {
            if (!in(holder, 0, 9) || !in(date, 0, w.trips.size() - 1)) {
                return UNKNOWN;
            }
            int place = w.lists.get(date).indexOf(holder);
            if (place < 0) {
                return NONE;
            }
            w.lists.get(date).remove(place);
            return place;
        });
    }

    int pass(int days) {
        return act(() -> {
            if (!in(days, 1, 60)) {
                return BAD;
            }
            if (w.day + days > 9999) {
                return NOT;
            }
            long before = w.deals.stream().filter(d -> d.kind == Kind.LAPSED).count();
            for (int i = 0; i < days; i++) {
                oneDay();
            }
            return (int) (w.deals.stream().filter(d -> d.kind == Kind.LAPSED).count() - before);
        });
    }

    private void oneDay() {
        w.day++;
        for (Trip trip : w.trips) {
            if (left(trip.id) == 0) {
                for (Deal deal : new ArrayList<>(w.deals)) {
                    if (deal.date == trip.id && deal.live()) {
                        w.deals.set(deal.id, deal.as(Kind.LAPSED, NONE));
                        event(6, deal.id, deal.cost);
                    }
                }
                w.lists.get(trip.id).clear();
            }
        }
        for (Trip trip : w.trips) {
            if (left(trip.id) == w.numbers.get(0)) {
                for (Deal deal : toCover(trip)) {
                    int cents = coverPrice(deal);
                    w.deals.set(deal.id, deal.as(Kind.COVERED, NONE));
                    pay(deal.holder, cents);
                    event(5, deal.id, cents);
                }
            }
        }
        for (Trip trip : w.trips) {
            listBuys(trip.id);
        }
    }

    private List<Deal> toCover(Trip trip) {
        List<Deal> order = new ArrayList<>(w.deals.stream().filter(d -> d.date == trip.id && d.live()).toList());
        order.sort(Comparator.comparing((Deal d) -> d.kind == Kind.OFFERED ? 0 : 1)
                .thenComparing(d -> d.kind == Kind.OFFERED ? d.asking : d.cost)
                .thenComparing(Deal::id));
        int tooMany = Math.max(0, out(trip.id) - trip.places);
        return order.subList(0, Math.min(tooMany, order.size()));
    }

    private static int coverPrice(Deal deal) {
        return deal.kind == Kind.OFFERED ? deal.asking : deal.cost + deal.cost / 2;
    }

    private void listBuys(int date) {
        List<Integer> list = w.lists.get(date);
        while (!list.isEmpty() && canSell(date) > 0) {
            sell(list.remove(0), date);
        }
    }

    private int sell(int holder, int date) {
        int price = price(date, left(date));
        int id = w.deals.size();
        w.deals.add(new Deal(id, date, holder, price, Kind.HELD, NONE, w.day, 0));
        pay(holder, -price);
        event(0, id, price);
        return id;
    }

    private int doBuy(int holder, int date) {
        if (!in(holder, 0, 9) || !in(date, 0, w.trips.size() - 1)) {
            return UNKNOWN;
        }
        if (left(date) < 1) {
            return NOT;
        }
        return canSell(date) == 0 ? FULL : sell(holder, date);
    }

    private int doBuyOffered(int holder, int date) {
        if (!in(holder, 0, 9) || !in(date, 0, w.trips.size() - 1)) {
            return UNKNOWN;
        }
        Deal best = w.deals.stream().filter(d -> d.date == date && d.kind == Kind.OFFERED)
                .min(Comparator.comparing(Deal::asking).thenComparing(Deal::id)).orElse(null);
        if (best == null || best.holder == holder) {
            return NOT;
        }
        pay(holder, -best.asking);
        pay(best.holder, best.asking);
        pay(best.holder, -(best.asking * w.numbers.get(1) / 100));
        w.deals.set(best.id, best.to(holder));
        event(1, best.id, best.asking);
        return best.id;
    }

    private int doCancel(int right) {
        if (!in(right, 0, w.deals.size() - 1)) {
            return UNKNOWN;
        }
        int back = back(right);
        if (back < 0) {
            return NOT;
        }
        Deal deal = w.deals.get(right);
        w.deals.set(right, deal.as(Kind.CANCELLED, NONE));
        pay(deal.holder, back);
        event(4, right, back);
        listBuys(deal.date);
        return back;
    }

    private int doOffer(int right, int price) {
        if (!in(right, 0, w.deals.size() - 1)) {
            return UNKNOWN;
        }
        Deal deal = w.deals.get(right);
        if (!deal.live()) {
            return NOT;
        }
        if (!in(price, 1, w.trips.get(deal.date).base * 2)) {
            return BAD;
        }
        if (deal.kind == Kind.OFFERED && deal.asking == price) {
            return NONE;
        }
        w.deals.set(right, deal.as(Kind.OFFERED, price));
        event(2, right, price);
        return deal.kind == Kind.OFFERED ? deal.asking : 0;
    }

    private int doExercise(int right) {
        if (!in(right, 0, w.deals.size() - 1)) {
            return UNKNOWN;
        }
        if (!canExercise(right)) {
            return NOT;
        }
        Deal deal = w.deals.get(right);
        w.deals.set(right, deal.as(Kind.EXERCISED, NONE));
        pay(deal.holder, -w.numbers.get(3));
        event(3, right, w.numbers.get(3));
        return ofKind(deal.date, Kind.EXERCISED);
    }

    // ---- texts

    int type(char sign) {
        if (text.length() == 60) {
            return FULL;
        }
        text += sign;
        return text.length();
    }

    int clearText() {
        int old = text.length();
        text = "";
        return old;
    }

    int perform() {
        for (int length = 1; length <= text.length(); length++) {
            Matcher matcher = ROW.matcher(text.substring(0, length));
            if (!matcher.matches() && !matcher.hitEnd()) {
                return -100 - (length - 1);
            }
        }
        if (!ROW.matcher(text).matches()) {
            return -100 - text.length();
        }
        return act(() -> {
            String[] orders = text.split(";");
            for (String order : orders) {
                int answer = order(order.charAt(0), order.substring(1).split("[@=]"));
                if (answer < 0) {
                    return answer;
                }
            }
            return orders.length;
        });
    }

    private int order(char kind, String[] parts) {
        int first = Integer.parseInt(parts[0]);
        int second = parts.length > 1 ? Integer.parseInt(parts[1]) : 0;
        return switch (kind) {
            case 'b' -> doBuy(first, second);
            case 'm' -> doBuyOffered(first, second);
            case 'c' -> doCancel(first);
            case 'x' -> doExercise(first);
            default -> doOffer(first, second);
        };
    }

    // ---- history

    int undo() {
        if (past.isEmpty()) {
            return NONE;
        }
        w = past.pop();
        return past.size();
    }

    int keep() {
        snapshot = w.copy();
        return w.day;
    }

    int restore() {
        if (snapshot == null) {
            return NONE;
        }
        return act(() -> {
            w = snapshot.copy();
            return w.day;
        });
    }

    // ---- what is told

    int date(int date, int what) {
        if (!in(date, 0, w.trips.size() - 1)) {
            return UNKNOWN;
        }
        Trip trip = w.trips.get(date);
        boolean open = left(date) >= 1;
        return switch (what) {
            case 0 -> trip.day;
            case 1 -> trip.places;
            case 2 -> trip.surplus;
            case 3 -> trip.base;
            case 4 -> trip.rule;
            case 5 -> open ? left(date) : 0;
            case 6 -> out(date);
            case 7 -> ofKind(date, Kind.EXERCISED);
            case 8 -> ofKind(date, Kind.OFFERED);
            case 9 -> price(date, left(date));
            case 10 -> canSell(date);
            case 11 -> open ? stageAt(left(date)) : NONE;
            case 12 -> w.lists.get(date).size();
            case 13 -> w.deals.stream().filter(d -> d.date == date && d.kind == Kind.OFFERED)
                    .mapToInt(Deal::asking).min().orElse(NONE);
            default -> BAD;
        };
    }

    int waiting(int date, int place) {
        if (!in(date, 0, w.trips.size() - 1)) {
            return UNKNOWN;
        }
        if (place < 0) {
            return BAD;
        }
        List<Integer> list = w.lists.get(date);
        return place < list.size() ? list.get(place) : NONE;
    }

    int right(int right, int what) {
        if (!in(right, 0, w.deals.size() - 1)) {
            return UNKNOWN;
        }
        Deal deal = w.deals.get(right);
        return switch (what) {
            case 0 -> deal.date;
            case 1 -> deal.holder;
            case 2 -> deal.cost;
            case 3 -> deal.kind.ordinal();
            case 4 -> deal.asking;
            case 5 -> deal.soldOn;
            case 6 -> deal.resold;
            case 7 -> back(right);
            case 8 -> canExercise(right) ? 1 : 0;
            default -> BAD;
        };
    }

    int holder(int holder, int what) {
        if (!in(holder, 0, 9)) {
            return UNKNOWN;
        }
        return switch (what) {
            case 0 -> 1000000000 + w.transfers.stream().filter(t -> t[0] == holder).mapToInt(t -> t[1]).sum();
            case 1 -> (int) w.deals.stream().filter(d -> d.holder == holder && d.live()).count();
            case 2 -> (int) w.deals.stream().filter(d -> d.holder == holder && d.kind == Kind.EXERCISED).count();
            case 3 -> (int) w.lists.stream().filter(list -> list.contains(holder)).count();
            default -> BAD;
        };
    }

    int stage(int stage, int what) {
        if (!in(stage, 0, 3)) {
            return UNKNOWN;
        }
        return in(what, 0, 1) ? w.stages.get(stage)[what] : BAD;
    }

    int priceIn(int date, int days) {
        if (!in(date, 0, w.trips.size() - 1)) {
            return UNKNOWN;
        }
        if (!in(days, 0, 60)) {
            return BAD;
        }
        return left(date) - days < 1 ? NONE : price(date, left(date) - days);
    }

    int wouldCover(int date) {
        if (!in(date, 0, w.trips.size() - 1)) {
            return UNKNOWN;
        }
        if (left(date) <= w.numbers.get(0)) {
            return NONE;
        }
        return toCover(w.trips.get(date)).stream().mapToInt(DeskModel::coverPrice).sum();
    }

    int event(int back, int what) {
        if (back < 0 || !in(what, 0, 3)) {
            return BAD;
        }
        if (back >= 10 || back >= w.events.size()) {
            return NONE;
        }
        return w.events.get(w.events.size() - 1 - back)[what];
    }

    int count(int what) {
        return switch (what) {
            case 0 -> w.day;
            case 1 -> w.trips.size();
            case 2 -> w.deals.size();
            case 3, 4, 5, 6, 7, 8 -> (int) w.deals.stream().filter(d -> d.kind.ordinal() == what - 3).count();
            case 9 -> 1000000000 - w.transfers.stream().mapToInt(t -> t[1]).sum();
            case 10, 11, 12, 13 -> w.numbers.get(what - 10);
            case 14 -> past.size();
            case 15 -> text.length();
            default -> BAD;
        };
    }

    // ---- terms

    private static boolean in(int value, int least, int most) {
        return value >= least && value <= most;
    }

    private int left(int date) {
        return w.trips.get(date).day - w.day;
    }

    private int out(int date) {
        return (int) w.deals.stream().filter(d -> d.date == date && d.out()).count();
    }

    private int ofKind(int date, Kind kind) {
        return (int) w.deals.stream().filter(d -> d.date == date && d.kind == kind).count();
    }

    private int price(int date, int left) {
        Trip trip = w.trips.get(date);
        if (trip.rule == 0) {
            return trip.base;
        }
        if (trip.rule == 1) {
            return trip.base + trip.base * out(date) / trip.places;
        }
        int m = left > 30 ? 0 : 30 - left;
        return (int) ((long) trip.base * (100 + 2L * m) / 100);
    }

    private int canSell(int date) {
        Trip trip = w.trips.get(date);
        if (left(date) < 1) {
            return 0;
        }
        int n = 0;
        int most = left(date) <= w.numbers.get(0) ? trip.places : trip.places + trip.surplus;
        while (out(date) + n < most && w.deals.size() + n < 60) {
            n++;
        }
        return n;
    }

    private int stageAt(int left) {
        for (int i = 0; i < 4; i++) {
            if (w.stages.get(i)[0] <= left) {
                return i;
            }
        }
        throw new IllegalStateException("no stage");
    }

    private int back(int right) {
        Deal deal = w.deals.get(right);
        if (!deal.live() || left(deal.date) < 1) {
            return NONE;
        }
        return deal.cost - deal.cost * w.stages.get(stageAt(left(deal.date)))[1] / 100;
    }

    private boolean canExercise(int right) {
        Deal deal = w.deals.get(right);
        return deal.kind == Kind.HELD && in(left(deal.date), 1, w.numbers.get(2))
                && ofKind(deal.date, Kind.EXERCISED) < w.trips.get(deal.date).places;
    }

    private void pay(int holder, int cents) {
        w.transfers.add(new int[] {holder, cents});
    }

    private void event(int kind, int right, int cents) {
        w.events.add(new int[] {kind, right, cents, w.day});
    }
}
