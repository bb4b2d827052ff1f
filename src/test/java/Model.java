import java.util.ArrayList;
import java.util.Comparator;
import java.util.List;
import java.util.regex.Pattern;

/**
 * The document once more, written another way than the program: with objects, lists that are sorted
 * and filtered, copies of whole states, and sums that are reckoned when they are asked for.
 */
final class Model {
    static final int UNKNOWN = -1;
    static final int BAD_VALUE = -2;
    static final int FULL = -3;
    static final int NOT_POSSIBLE = -4;
    static final int NONE = -5;

    private static final int[][] NEEDS = {{0}, {1}, {2, 2}, {3, 4}, {5}};
    private static final int[] HOURS = {2, 3, 1, 5, 4};
    private static final float[][] RATE_RANGES = {{1f, 3f}, {1f, 2f}, {0f, 1000f}, {0f, 1f}};
    private static final int[][] NUMBER_RANGES = {{1, 24}, {100, 20000}, {0, 60}, {1, 400}, {0, 6}};
    private static final Pattern ANSWERS = Pattern.compile("(0|[1-9][0-9]?)[yn](,(0|[1-9][0-9]?)[yn])*");

    private static final class Repair implements Cloneable {
        int number;
        int fault;
        int came;
        int estimate;
        int worked;
        int bill;
        boolean loaner;
        int state;
        int ready = NONE;
        boolean wasDone;
        int partsCost;
        int paidBill;
        int paidFee;
        int brought;

        Repair copy() {
            try {
                return (Repair) super.clone();
            } catch (CloneNotSupportedException e) {
                throw new IllegalStateException(e);
            }
        }
    }

    private record Order(int part, int many, int day) {
    }

    private static final class State {
        int day;
        float[] rates = {1.4f, 1.1f, 25.5f, 0.6f};
        int[] numbers = {8, 4500, 7, 90, 2};
        int[] prices = {100, 100, 100, 100, 100, 100};
        int[] leads = {2, 2, 2, 2, 2, 2};
        int[] stock = new int[6];
        List<Order> orders = new ArrayList<>();
        List<Repair> repairs = new ArrayList<>();

        State copy() {
            State other = new State();
            other.day = day;
            other.rates = rates.clone();
            other.numbers = numbers.clone();
            other.prices = prices.clone();
            other.leads = leads.clone();
            other.stock = stock.clone();
            other.orders = new ArrayList<>(orders);
            for (Repair one : repairs) {
                other.repairs.add(one.copy());
            }
            return other;
        }

        Repair find(int set) {
            return repairs.stream().filter(r -> r.number == set).findFirst().orElse(null);
        }

        int inState(int state) {
            return (int) repairs.stream().filter(r -> r.state == state).count();
        }

        int need(int fault, int part) {
            int sum = 0;
            for (int one : NEEDS[fault]) {
                sum += one == part ? 1 : 0;
            }
            return sum;
        }

        /** What sets in work hold. */
        int reserved(int part) {
            return repairs.stream().filter(r -> r.state == 3).mapToInt(r -> need(r.fault, part)).sum();
        }

        int free(int part) {
            return stock[part] - reserved(part);
        }

        int onOrder(int part) {
            return orders.stream().filter(o -> o.part == part).mapToInt(o -> o.many).sum();
        }

        int lacking(int part) {
            int needed = repairs.stream().filter(r -> r.state == 2).mapToInt(r -> need(r.fault, part)).sum();
            int lacking = needed - free(part) - onOrder(part);
            return lacking < 0 ? 0 : lacking;
        }

        int partsPrice(int fault) {
            int sum = 0;
            for (int part : NEEDS[fault]) {
                sum += prices[part];
            }
            return sum;
        }

        int cost(int fault) {
            float parts = partsPrice(fault);
            float marked = parts * rates[0];
            float work = HOURS[fault] * numbers[1];
            float sum = marked + work;
            return (int) sum;
        }

        int loaners() {
            return numbers[4] - (int) repairs.stream().filter(r -> r.loaner).count();
        }

        int shortPart(int fault) {
            for (int part = 0; part < 6; part++) {
                if (free(part) < need(fault, part)) {
                    return part;
                }
            }
            return NONE;
        }

        List<Repair> inTurn(int state) {
            List<Repair> turn = new ArrayList<>(repairs.stream().filter(r -> r.state == state).toList());
            turn.sort(Comparator.comparing((Repair r) -> r.loaner ? 0 : 1).thenComparing(r -> r.number));
            return turn;
        }

        void reserve() {
            for (Repair one : inTurn(2)) {
                if (shortPart(one.fault) == NONE) {
                    one.state = 3;
                }
            }
        }

        int answer(int set, boolean is) {
            Repair one = find(set);
            if (one == null) {
                return UNKNOWN;
            }
            if (one.state != 1) {
                return NOT_POSSIBLE;
            }
            if (is) {
                one.state = 2;
                reserve();
            } else {
                one.state = 5;
                one.ready = day;
            }
            return one.state;
        }

        int fee(Repair one) {
            int ready = day - one.ready;
            if (ready <= numbers[2]) {
                return 0;
            }
            float days = ready - numbers[2];
            return (int) (days * rates[2]);
        }

        void passDay() {
            day += 1;
            for (Order order : List.copyOf(orders)) {
                if (order.day == day) {
                    orders.remove(order);
                    stock[order.part] += order.many;
                    reserve();
                }
            }
            work();
            for (Repair one : repairs) {
                if ((one.state == 4 || one.state == 5) && day - one.ready >= numbers[3]) {
                    one.brought = one.state == 4 ? (int) (one.bill * rates[3]) : 0;
                    one.state = 7;
                    one.loaner = false;
                }
            }
        }

        private void work() {
            int hours = numbers[0];
            for (Repair one : inTurn(3)) {
                while (hours > 0 && one.worked < HOURS[one.fault]) {
                    hours--;
                    one.worked++;
                }
                if (one.worked == HOURS[one.fault]) {
                    done(one);
                }
            }
        }

        private void done(Repair one) {
            for (int part : NEEDS[one.fault]) {
                stock[part]--;
            }
            float limit = one.estimate * rates[1];
            float cost = cost(one.fault);
            one.bill = (int) (cost < limit ? cost : limit);
            one.partsCost = partsPrice(one.fault);
            one.state = 4;
            one.ready = day;
            one.wasDone = true;
        }
    }

    private State now = new State();
    private State kept;
    private final List<State> history = new ArrayList<>();
    private String text = "";

    private void record() {
        history.add(now.copy());
        if (history.size() > 4) {
            history.remove(0);
        }
    }

    private static boolean in(int value, int low, int high) {
        return low <= value && value <= high;
    }

    int setRate(int which, int bits) {
        if (!in(which, 0, 3)) {
            return UNKNOWN;
        }
        float value = Float.intBitsToFloat(bits);
        boolean negativeZero = value == 0f && bits != 0;
        if (Float.isNaN(value) || negativeZero || value < RATE_RANGES[which][0] || value > RATE_RANGES[which][1]) {
            return BAD_VALUE;
        }
        if (now.rates[which] == value) {
            return NONE;
        }
        record();
        now.rates[which] = value;
        return 1;
    }

    int setNumber(int which, int value) {
        if (!in(which, 0, 4)) {
            return UNKNOWN;
        }
        if (!in(value, NUMBER_RANGES[which][0], NUMBER_RANGES[which][1])) {
            return BAD_VALUE;
        }
        if (which == 4 && now.repairs.stream().filter(r -> r.loaner).count() > value) {
            return NOT_POSSIBLE;
        }
        int before = now.numbers[which];
        if (before == value) {
            return NONE;
        }
        record();
        now.numbers[which] = value;
        return before;
    }

    int setPart(int part, int price, int lead) {
        if (!in(part, 0, 5)) {
            return UNKNOWN;
        }
        if (!in(price, 1, 50000) || !in(lead, 1, 30)) {
            return BAD_VALUE;
        }
        int before = now.prices[part];
        if (before == price && now.leads[part] == lead) {
            return NONE;
        }
        record();
        now.prices[part] = price;
        now.leads[part] = lead;
        return before;
    }

    int order(int part, int many) {
        if (!in(part, 0, 5)) {
            return UNKNOWN;
        }
        if (!in(many, 1, 9)) {
            return BAD_VALUE;
        }
        if (now.orders.size() == 12) {
            return FULL;
        }
        record();
        Order made = new Order(part, many, now.day + now.leads[part]);
        now.orders.add(made);
        return made.day;
    }

    int put(int part, int many) {
        if (!in(part, 0, 5)) {
            return UNKNOWN;
        }
        if (!in(many, 1, 9)) {
            return BAD_VALUE;
        }
        if (now.stock[part] + many > 99) {
            return FULL;
        }
        record();
        now.stock[part] += many;
        now.reserve();
        return now.stock[part];
    }

    int come(int fault) {
        if (!in(fault, 0, 4)) {
            return UNKNOWN;
        }
        if (now.repairs.size() == 20) {
            return FULL;
        }
        record();
        Repair one = new Repair();
        one.number = now.repairs.size();
        one.fault = fault;
        one.came = now.day;
        now.repairs.add(one);
        return one.number;
    }

    int estimate(int set) {
        Repair one = now.find(set);
        if (one == null) {
            return UNKNOWN;
        }
        if (one.state != 0) {
            return NOT_POSSIBLE;
        }
        record();
        one.estimate = now.cost(one.fault);
        one.state = 1;
        return one.estimate;
    }

    int answer(int set, boolean is) {
        State before = now.copy();
        int told = now.answer(set, is);
        if (told >= 0) {
            State after = now;
            now = before;
            record();
            now = after;
        }
        return told;
    }

    /** The longest start of the text that can go on to a text of answers tells the fault. */
    int readAnswers() {
        if (!ANSWERS.matcher(text).matches()) {
            int fault = 0;
            while (fault < text.length() && canGoOn(text.substring(0, fault + 1))) {
                fault++;
            }
            return -100 - fault;
        }
        State after = now.copy();
        int working = 0;
        for (String one : text.split(",")) {
            int set = Integer.parseInt(one.substring(0, one.length() - 1));
            int told = after.answer(set, one.endsWith("y"));
            if (told < 0) {
                return NOT_POSSIBLE;
            }
            working += told == 3 ? 1 : 0;
        }
        record();
        now = after;
        return working;
    }

    private static boolean canGoOn(String start) {
        String[] ends = {"", "y", "0y"};
        for (String end : ends) {
            if (ANSWERS.matcher(start + end).matches()) {
                return true;
            }
        }
        return false;
    }

    int lend(int set) {
        Repair one = now.find(set);
        if (one == null) {
            return UNKNOWN;
        }
        if (one.state >= 4 || one.loaner) {
            return NOT_POSSIBLE;
        }
        if (now.loaners() == 0) {
            return FULL;
        }
        record();
        one.loaner = true;
        return now.loaners();
    }

    int collect(int set) {
        Repair one = now.find(set);
        if (one == null) {
            return UNKNOWN;
        }
        if (one.state != 4 && one.state != 5) {
            return NOT_POSSIBLE;
        }
        record();
        one.paidBill = one.bill;
        one.paidFee = now.fee(one);
        one.state = 6;
        one.loaner = false;
        return one.paidBill + one.paidFee;
    }

    int pass(int days) {
        if (!in(days, 1, 60)) {
            return BAD_VALUE;
        }
        if (now.day + days > 9999) {
            return NOT_POSSIBLE;
        }
        record();
        long before = now.repairs.stream().filter(r -> r.wasDone).count();
        for (int i = 0; i < days; i++) {
            now.passDay();
        }
        return (int) (now.repairs.stream().filter(r -> r.wasDone).count() - before);
    }

    int type(char character) {
        if (text.length() == 60) {
            return FULL;
        }
        text += character;
        return text.length();
    }

    int clearText() {
        int length = text.length();
        text = "";
        return length;
    }

    int undo() {
        if (history.isEmpty()) {
            return NONE;
        }
        now = history.remove(history.size() - 1);
        return history.size();
    }

    int keep() {
        kept = now.copy();
        return now.day;
    }

    int restore() {
        if (kept == null) {
            return NONE;
        }
        record();
        now = kept.copy();
        return now.day;
    }

    float rate(int which) {
        return in(which, 0, 3) ? now.rates[which] : Float.NaN;
    }

    int number(int which) {
        return in(which, 0, 4) ? now.numbers[which] : UNKNOWN;
    }

    int part(int part, int what) {
        if (!in(part, 0, 5)) {
            return UNKNOWN;
        }
        if (!in(what, 0, 5)) {
            return BAD_VALUE;
        }
        int[] all = {
            now.prices[part], now.leads[part], now.stock[part], now.reserved(part), now.onOrder(part),
            now.lacking(part),
        };
        return all[what];
    }

    int costOf(int fault) {
        return in(fault, 0, 4) ? now.cost(fault) : UNKNOWN;
    }

    int set(int set, int what) {
        Repair one = now.find(set);
        if (one == null) {
            return UNKNOWN;
        }
        if (!in(what, 0, 8)) {
            return BAD_VALUE;
        }
        int fee = one.state == 4 || one.state == 5 ? now.fee(one) : NONE;
        int[] all = {
            one.fault, one.came, one.estimate, one.worked, one.bill, one.loaner ? 1 : 0, one.state, one.ready, fee,
        };
        return all[what];
    }

    int waitsFor(int set) {
        Repair one = now.find(set);
        if (one == null) {
            return UNKNOWN;
        }
        if (one.state == 2) {
            for (int part : NEEDS[one.fault]) {
                if (now.free(part) + now.onOrder(part) < now.need(one.fault, part)) {
                    return 3;
                }
            }
            return 2;
        }
        int[] others = {0, 1, 2, 4, 5, 5, NONE, NONE};
        return others[one.state];
    }

    int lacks(int set) {
        Repair one = now.find(set);
        if (one == null) {
            return UNKNOWN;
        }
        return one.state == 2 ? now.shortPart(one.fault) : NONE;
    }

    int doneIn(int set) {
        Repair one = now.find(set);
        if (one == null) {
            return UNKNOWN;
        }
        if (one.state != 2 && one.state != 3) {
            return NONE;
        }
        State later = now.copy();
        for (int days = 1; days <= 200; days++) {
            later.passDay();
            if (later.find(set).wasDone) {
                return days;
            }
        }
        return NONE;
    }

    float meanDays() {
        List<Repair> done = now.repairs.stream().filter(r -> r.wasDone).toList();
        float sum = done.stream().mapToInt(r -> r.ready - r.came).sum();
        return done.isEmpty() ? Float.NaN : sum / done.size();
    }

    int count(int what) {
        if (in(what, 2, 9)) {
            return now.inState(what - 2);
        }
        return switch (what) {
            case 0 -> now.day;
            case 1 -> now.repairs.size();
            case 10 -> now.orders.size();
            case 11 -> now.loaners();
            case 12 -> now.repairs.stream().mapToInt(r -> r.paidBill).sum();
            case 13 -> now.repairs.stream().mapToInt(r -> r.paidFee).sum();
            case 14 -> now.repairs.stream().mapToInt(r -> r.brought).sum();
            case 15 -> now.repairs.stream().mapToInt(r -> r.partsCost).sum();
            case 16 -> history.size();
            case 17 -> text.length();
            default -> BAD_VALUE;
        };
    }
}
