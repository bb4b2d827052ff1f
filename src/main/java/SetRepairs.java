/** A desk that repairs electronic sets. The document's promises tell what each call answers. */
public final class SetRepairs {
    public static final int UNKNOWN = -1;
    public static final int BAD_VALUE = -2;
    public static final int FULL = -3;
    public static final int NOT_POSSIBLE = -4;
    public static final int NONE = -5;

    private static final int RATES = 4;
    private static final int MARKUP = 0;
    private static final int TOLERANCE = 1;
    private static final int STORAGE_FEE = 2;
    private static final int SALE_SHARE = 3;

    // Floats that are not negative are in the order of their bits, and the bits of -0.0f and of
    // every NaN lie outside of these ranges: so a rate is checked without being made a float.
    private static final int[] LOWEST_RATE_BITS = {0x3f800000, 0x3f800000, 0, 0};
    private static final int[] HIGHEST_RATE_BITS = {0x40400000, 0x40000000, 0x447a0000, 0x3f800000};

    private static final int NUMBERS = 5;
    private static final int HOURS_OF_DAY = 0;
    private static final int WAGE = 1;
    private static final int GRACE = 2;
    private static final int DAYS_UNTIL_SALE = 3;
    private static final int LOANERS = 4;
    private static final int[] LOWEST_NUMBER = {1, 100, 0, 1, 0};
    private static final int[] HIGHEST_NUMBER = {24, 20000, 60, 400, 6};

    private static final int PARTS = 6;
    private static final int HIGHEST_PRICE = 50000;
    private static final int LONGEST_LEAD = 30;
    private static final int MOST_AT_ONCE = 9;
    private static final int MOST_IN_STOCK = 99;
    private static final int MOST_ORDERS = 12;

    private static final int FAULTS = 5;
    private static final int[] HOURS_OF_FAULT = {2, 3, 1, 5, 4};
    private static final int[] PARTS_OF_FAULT = {
        1, 0, 0, 0, 0, 0,
        0, 1, 0, 0, 0, 0,
        0, 0, 2, 0, 0, 0,
        0, 0, 0, 1, 1, 0,
        0, 0, 0, 0, 0, 1,
    };

    private static final int MOST_SETS = 20;
    private static final int IN = 0;
    private static final int ESTIMATED = 1;
    private static final int APPROVED = 2;
    private static final int IN_WORK = 3;
    private static final int DONE = 4;
    private static final int REFUSED = 5;
    private static final int COLLECTED = 6;
    private static final int SOLD = 7;

    private static final int MOST_DAYS_AT_ONCE = 60;
    private static final int LAST_DAY = 9999;
    private static final int FARTHEST_DAYS_TOLD = 200;
    private static final int LONGEST_TEXT = 60;
    private static final int MOST_STATES = 4;

    private final Desk desk;
    private final Desk trial;
    private final Desk snapshot;
    private boolean hasSnapshot;
    private final History history;
    private final AnswerText text;

    public SetRepairs() {
        desk = new Desk();
        trial = new Desk();
        snapshot = new Desk();
        hasSnapshot = false;
        history = new History();
        text = new AnswerText();
    }

    // ---- settings

    public int setRate(int which, int bits) {
        if (!isIndex(which, RATES)) {
            return UNKNOWN;
        }
        if (!isWithin(bits, LOWEST_RATE_BITS[which], HIGHEST_RATE_BITS[which])) {
            return BAD_VALUE;
        }
        float value = floatOf(bits);
        if (desk.rates[which] == value) {
            return NONE;
        }
        history.record(desk);
        desk.rates[which] = value;
        return 1;
    }

    public int setNumber(int which, int value) {
        if (!isIndex(which, NUMBERS)) {
            return UNKNOWN;
        }
        if (!isWithin(value, LOWEST_NUMBER[which], HIGHEST_NUMBER[which])) {
            return BAD_VALUE;
        }
        if (which == LOANERS && desk.sets.withLoaner() > value) {
            return NOT_POSSIBLE;
        }
        int previous = desk.numbers[which];
        if (previous == value) {
            return NONE;
        }
        history.record(desk);
        desk.numbers[which] = value;
        return previous;
    }

    public int setPart(int part, int price, int lead) {
        if (!isIndex(part, PARTS)) {
            return UNKNOWN;
        }
        if (!isWithin(price, 1, HIGHEST_PRICE) || !isWithin(lead, 1, LONGEST_LEAD)) {
            return BAD_VALUE;
        }
        int previous = desk.store.price[part];
        if (previous == price && desk.store.lead[part] == lead) {
            return NONE;
        }
        history.record(desk);
        desk.store.price[part] = price;
        desk.store.lead[part] = lead;
        return previous;
    }

    // ---- parts

    public int order(int part, int many) {
        if (!isIndex(part, PARTS)) {
            return UNKNOWN;
        }
        if (!isWithin(many, 1, MOST_AT_ONCE)) {
            return BAD_VALUE;
        }
        if (desk.store.orders >= MOST_ORDERS) {
            return FULL;
        }
        history.record(desk);
        int comes = desk.day + desk.store.lead[part];
        desk.store.addOrder(part, many, comes);
        return comes;
    }

    public int put(int part, int many) {
        if (!isIndex(part, PARTS)) {
            return UNKNOWN;
        }
        if (!isWithin(many, 1, MOST_AT_ONCE)) {
            return BAD_VALUE;
        }
        if (desk.store.stock[part] + many > MOST_IN_STOCK) {
            return FULL;
        }
        history.record(desk);
        desk.store.stock[part] += many;
        desk.reserveParts();
        return desk.store.stock[part];
    }

    // ---- sets

    public int come(int fault) {
        if (!isIndex(fault, FAULTS)) {
            return UNKNOWN;
        }
        if (desk.sets.many >= MOST_SETS) {
            return FULL;
        }
        history.record(desk);
        return desk.sets.add(fault, desk.day);
    }

    public int estimate(int set) {
        if (!isSet(set)) {
            return UNKNOWN;
        }
        if (desk.sets.state[set] != IN) {
            return NOT_POSSIBLE;
        }
        history.record(desk);
        int cost = desk.costNow(desk.sets.fault[set]);
        desk.sets.estimate[set] = cost;
        desk.sets.state[set] = ESTIMATED;
        return cost;
    }

    public int answer(int set, boolean is) {
        if (!isSet(set)) {
            return UNKNOWN;
        }
        if (desk.sets.state[set] != ESTIMATED) {
            return NOT_POSSIBLE;
        }
        history.record(desk);
        desk.decide(set, is);
        return desk.sets.state[set];
    }

    public int readAnswers() {
        int fault = text.fault();
        if (fault != NONE) {
            return -100 - fault;
        }
        trial.copyFrom(desk);
        if (!decideByText(trial)) {
            return NOT_POSSIBLE;
        }
        int started = trial.sets.inState(IN_WORK) - desk.sets.inState(IN_WORK);
        history.record(desk);
        desk.copyFrom(trial);
        return started;
    }

    public int lend(int set) {
        if (!isSet(set)) {
            return UNKNOWN;
        }
        if (desk.sets.state[set] >= DONE || desk.sets.loaner[set] == 1) {
            return NOT_POSSIBLE;
        }
        if (desk.loanersThere() <= 0) {
            return FULL;
        }
        history.record(desk);
        desk.sets.loaner[set] = 1;
        return desk.loanersThere();
    }

    public int collect(int set) {
        if (!isSet(set)) {
            return UNKNOWN;
        }
        if (!desk.sets.isReady(set)) {
            return NOT_POSSIBLE;
        }
        history.record(desk);
        return desk.handOver(set);
    }

    public int pass(int days) {
        if (!isWithin(days, 1, MOST_DAYS_AT_ONCE)) {
            return BAD_VALUE;
        }
        if (desk.day + days > LAST_DAY) {
            return NOT_POSSIBLE;
        }
        history.record(desk);
        int doneBefore = desk.books.setsDone;
        for (int i = 0; i < days; i++) {
            desk.passDay();
        }
        return desk.books.setsDone - doneBefore;
    }

    // ---- texts

    public int type(char character) {
        if (text.length >= LONGEST_TEXT) {
            return FULL;
        }
        text.characters[text.length] = character;
        text.length++;
        return text.length;
    }

    public int clearText() {
        int previous = text.length;
        text.length = 0;
        return previous;
    }

    // ---- history

    public int undo() {
        if (history.many <= 0) {
            return NONE;
        }
        history.giveBack(desk);
        return history.many;
    }

    public int keep() {
        snapshot.copyFrom(desk);
        hasSnapshot = true;
        return desk.day;
    }

    public int restore() {
        if (!hasSnapshot) {
            return NONE;
        }
        history.record(desk);
        desk.copyFrom(snapshot);
        return desk.day;
    }

    // ---- what is told

    public float rate(int which) {
        return isIndex(which, RATES) ? desk.rates[which] : 0.0f / 0.0f;
    }

    public int number(int which) {
        return isIndex(which, NUMBERS) ? desk.numbers[which] : UNKNOWN;
    }

    public int part(int part, int what) {
        if (!isIndex(part, PARTS)) {
            return UNKNOWN;
        }
        switch (what) {
            case 0: return desk.store.price[part];
            case 1: return desk.store.lead[part];
            case 2: return desk.store.stock[part];
            case 3: return desk.store.reserved[part];
            case 4: return desk.store.onOrder(part);
            case 5: return desk.lackingOf(part);
            default: return BAD_VALUE;
        }
    }

    public int costOf(int fault) {
        return isIndex(fault, FAULTS) ? desk.costNow(fault) : UNKNOWN;
    }

    public int set(int set, int what) {
        if (!isSet(set)) {
            return UNKNOWN;
        }
        switch (what) {
            case 0: return desk.sets.fault[set];
            case 1: return desk.sets.came[set];
            case 2: return desk.sets.estimate[set];
            case 3: return desk.sets.worked[set];
            case 4: return desk.sets.bill[set];
            case 5: return desk.sets.loaner[set];
            case 6: return desk.sets.state[set];
            case 7: return desk.sets.ready[set];
            case 8: return desk.sets.isReady(set) ? desk.storageFee(set) : NONE;
            default: return BAD_VALUE;
        }
    }

    public int waitsFor(int set) {
        if (!isSet(set)) {
            return UNKNOWN;
        }
        switch (desk.sets.state[set]) {
            case IN: return 0;
            case ESTIMATED: return 1;
            case APPROVED: return desk.store.isEnoughOrdered(desk.sets.fault[set]) ? 2 : 3;
            case IN_WORK: return 4;
            case DONE: return 5;
            case REFUSED: return 5;
            default: return NONE;
        }
    }

    public int lacks(int set) {
        if (!isSet(set)) {
            return UNKNOWN;
        }
        if (desk.sets.state[set] != APPROVED) {
            return NONE;
        }
        return desk.store.lowestShort(desk.sets.fault[set]);
    }

    public int doneIn(int set) {
        if (!isSet(set)) {
            return UNKNOWN;
        }
        int state = desk.sets.state[set];
        if (state != APPROVED && state != IN_WORK) {
            return NONE;
        }
        trial.copyFrom(desk);
        for (int days = 1; days <= FARTHEST_DAYS_TOLD; days++) {
            // Stock grows by orders alone while only days pass: without one the set waits forever.
            if (trial.sets.state[set] == APPROVED && trial.store.orders == 0) {
                return NONE;
            }
            trial.passDay();
            if (trial.sets.state[set] == DONE) {
                return days;
            }
        }
        return NONE;
    }

    public float meanDays() {
        int done = desk.books.setsDone;
        if (done <= 0) {
            return 0.0f / 0.0f;
        }
        return (float) desk.books.daysToDone / (float) done;
    }

    public int count(int what) {
        if (isWithin(what, 2, 9)) {
            return desk.sets.inState(what - 2);
        }
        switch (what) {
            case 0: return desk.day;
            case 1: return desk.sets.many;
            case 10: return desk.store.orders;
            case 11: return desk.loanersThere();
            case 12: return desk.books.billsPaid;
            case 13: return desk.books.feesPaid;
            case 14: return desk.books.soldFor;
            case 15: return desk.books.partsBuiltIn;
            case 16: return history.many;
            case 17: return text.length;
            default: return BAD_VALUE;
        }
    }

    // ---- helpers of the calls

    private static boolean isIndex(int value, int many) {
        return value >= 0 && value < many;
    }

    private static boolean isWithin(int value, int lowest, int highest) {
        return value >= lowest && value <= highest;
    }

    private boolean isSet(int set) {
        return isIndex(set, desk.sets.many);
    }

    /** For bits from 0 to those of 1000.0f only; Float's own function is outside of the language. */
    private static float floatOf(int bits) {
        int exponent = bits >>> 23;
        int digits = bits & 0x7fffff;
        if (exponent == 0) {
            exponent = 1;
        } else {
            digits |= 0x800000;
        }
        // Each halving is exact: the result has no digit below the smallest float's.
        float value = (float) digits;
        for (int i = exponent; i < 150; i++) {
            value = value / 2.0f;
        }
        return value;
    }

    /** For a text without a fault; false as soon as an answer is not possible. */
    private boolean decideByText(Desk target) {
        int set = 0;
        for (int i = 0; i < text.length; i++) {
            char character = text.characters[i];
            if (AnswerText.isDigit(character)) {
                set = set * 10 + (character - '0');
            } else if (character == ',') {
                set = 0;
            } else {
                if (!target.sets.isEstimated(set)) {
                    return false;
                }
                target.decide(set, character == 'y');
            }
        }
        return true;
    }

    /** All that undo and the snapshot give back. */
    private static final class Desk {
        int day;
        final float[] rates;
        final int[] numbers;
        final Store store;
        final Sets sets;
        final Books books;

        Desk() {
            day = 0;
            rates = new float[] {1.4f, 1.1f, 25.5f, 0.6f};
            numbers = new int[] {8, 4500, 7, 90, 2};
            store = new Store();
            sets = new Sets();
            books = new Books();
        }

        void copyFrom(Desk other) {
            day = other.day;
            System.arraycopy(other.rates, 0, rates, 0, RATES);
            System.arraycopy(other.numbers, 0, numbers, 0, NUMBERS);
            store.copyFrom(other.store);
            sets.copyFrom(other.sets);
            books.copyFrom(other.books);
        }

        int costNow(int fault) {
            float parts = (float) store.priceOfParts(fault) * rates[MARKUP];
            float work = (float) (HOURS_OF_FAULT[fault] * numbers[WAGE]);
            return (int) (parts + work);
        }

        int loanersThere() {
            return numbers[LOANERS] - sets.withLoaner();
        }

        int storageFee(int set) {
            int daysBeyond = day - sets.ready[set] - numbers[GRACE];
            return daysBeyond <= 0 ? 0 : (int) ((float) daysBeyond * rates[STORAGE_FEE]);
        }

        int lackingOf(int part) {
            int needed = 0;
            for (int set = 0; set < sets.many; set++) {
                if (sets.state[set] == APPROVED) {
                    needed += Store.needOf(sets.fault[set], part);
                }
            }
            return Math.max(0, needed - store.free(part) - store.onOrder(part));
        }

        void decide(int set, boolean approved) {
            if (approved) {
                sets.state[set] = APPROVED;
                reserveParts();
            } else {
                sets.state[set] = REFUSED;
                sets.ready[set] = day;
            }
        }

        void reserveParts() {
            reservePartsWhere(1);
            reservePartsWhere(0);
        }

        private void reservePartsWhere(int loaner) {
            for (int set = 0; set < sets.many; set++) {
                if (!sets.isTurnOf(set, APPROVED, loaner)) {
                    continue;
                }
                int fault = sets.fault[set];
                if (store.lowestShort(fault) == NONE) {
                    store.reserveFor(fault);
                    sets.state[set] = IN_WORK;
                }
            }
        }

        int handOver(int set) {
            int fee = storageFee(set);
            books.billsPaid += sets.bill[set];
            books.feesPaid += fee;
            sets.state[set] = COLLECTED;
            sets.loaner[set] = 0;
            return sets.bill[set] + fee;
        }

        void passDay() {
            day++;
            takeOrders();
            int left = workWhere(1, numbers[HOURS_OF_DAY]);
            workWhere(0, left);
            sellUnclaimed();
        }

        private void takeOrders() {
            for (int i = 0; i < store.orders; i++) {
                if (store.orderDay[i] == day) {
                    store.stock[store.orderPart[i]] += store.orderMany[i];
                    reserveParts();
                }
            }
            store.dropOrdersOf(day);
        }

        /** Answers the hours that are left. */
        private int workWhere(int loaner, int hours) {
            int left = hours;
            for (int set = 0; set < sets.many && left > 0; set++) {
                if (!sets.isTurnOf(set, IN_WORK, loaner)) {
                    continue;
                }
                int needed = HOURS_OF_FAULT[sets.fault[set]];
                int spent = Math.min(left, needed - sets.worked[set]);
                sets.worked[set] += spent;
                left -= spent;
                if (sets.worked[set] == needed) {
                    finish(set);
                }
            }
            return left;
        }

        private void finish(int set) {
            int fault = sets.fault[set];
            int limit = (int) ((float) sets.estimate[set] * rates[TOLERANCE]);
            store.takeReservedFor(fault);
            sets.bill[set] = Math.min(costNow(fault), limit);
            sets.state[set] = DONE;
            sets.ready[set] = day;
            books.partsBuiltIn += store.priceOfParts(fault);
            books.daysToDone += day - sets.came[set];
            books.setsDone++;
        }

        private void sellUnclaimed() {
            for (int set = 0; set < sets.many; set++) {
                if (sets.isReady(set) && day - sets.ready[set] >= numbers[DAYS_UNTIL_SALE]) {
                    // The bill of a refused set is 0, so it brings nothing here.
                    books.soldFor += (int) ((float) sets.bill[set] * rates[SALE_SHARE]);
                    sets.state[set] = SOLD;
                    sets.loaner[set] = 0;
                }
            }
        }
    }

    /** The parts, and the orders that have not come, in the order in which they were made. */
    private static final class Store {
        final int[] price;
        final int[] lead;
        final int[] stock;
        final int[] reserved;
        int orders;
        final int[] orderPart;
        final int[] orderMany;
        final int[] orderDay;

        Store() {
            price = new int[] {100, 100, 100, 100, 100, 100};
            lead = new int[] {2, 2, 2, 2, 2, 2};
            stock = new int[PARTS];
            reserved = new int[PARTS];
            orders = 0;
            orderPart = new int[MOST_ORDERS];
            orderMany = new int[MOST_ORDERS];
            orderDay = new int[MOST_ORDERS];
        }

        void copyFrom(Store other) {
            System.arraycopy(other.price, 0, price, 0, PARTS);
            System.arraycopy(other.lead, 0, lead, 0, PARTS);
            System.arraycopy(other.stock, 0, stock, 0, PARTS);
            System.arraycopy(other.reserved, 0, reserved, 0, PARTS);
            orders = other.orders;
            System.arraycopy(other.orderPart, 0, orderPart, 0, MOST_ORDERS);
            System.arraycopy(other.orderMany, 0, orderMany, 0, MOST_ORDERS);
            System.arraycopy(other.orderDay, 0, orderDay, 0, MOST_ORDERS);
        }

        static int needOf(int fault, int part) {
            return PARTS_OF_FAULT[fault * PARTS + part];
        }

        int priceOfParts(int fault) {
            int sum = 0;
            for (int part = 0; part < PARTS; part++) {
                sum += needOf(fault, part) * price[part];
            }
            return sum;
        }

        int free(int part) {
            return stock[part] - reserved[part];
        }

        int onOrder(int part) {
            int sum = 0;
            for (int i = 0; i < orders; i++) {
                if (orderPart[i] == part) {
                    sum += orderMany[i];
                }
            }
            return sum;
        }

        int lowestShort(int fault) {
            for (int part = 0; part < PARTS; part++) {
                if (free(part) < needOf(fault, part)) {
                    return part;
                }
            }
            return NONE;
        }

        boolean isEnoughOrdered(int fault) {
            for (int part = 0; part < PARTS; part++) {
                if (free(part) + onOrder(part) < needOf(fault, part)) {
                    return false;
                }
            }
            return true;
        }

        void reserveFor(int fault) {
            for (int part = 0; part < PARTS; part++) {
                reserved[part] += needOf(fault, part);
            }
        }

        void takeReservedFor(int fault) {
            for (int part = 0; part < PARTS; part++) {
                stock[part] -= needOf(fault, part);
                reserved[part] -= needOf(fault, part);
            }
        }

        void addOrder(int part, int many, int comes) {
            if (orders >= MOST_ORDERS) {
                return;
            }
            orderPart[orders] = part;
            orderMany[orders] = many;
            orderDay[orders] = comes;
            orders++;
        }

        void dropOrdersOf(int day) {
            int left = 0;
            for (int i = 0; i < orders; i++) {
                if (orderDay[i] != day) {
                    orderPart[left] = orderPart[i];
                    orderMany[left] = orderMany[i];
                    orderDay[left] = orderDay[i];
                    left++;
                }
            }
            orders = left;
        }
    }

    /** The sets by their numbers, those that are gone among them. */
    private static final class Sets {
        int many;
        final int[] fault;
        final int[] came;
        final int[] estimate;
        final int[] worked;
        final int[] bill;
        final int[] loaner;
        final int[] state;
        final int[] ready;

        Sets() {
            many = 0;
            fault = new int[MOST_SETS];
            came = new int[MOST_SETS];
            estimate = new int[MOST_SETS];
            worked = new int[MOST_SETS];
            bill = new int[MOST_SETS];
            loaner = new int[MOST_SETS];
            state = new int[MOST_SETS];
            ready = new int[MOST_SETS];
        }

        void copyFrom(Sets other) {
            many = other.many;
            System.arraycopy(other.fault, 0, fault, 0, MOST_SETS);
            System.arraycopy(other.came, 0, came, 0, MOST_SETS);
            System.arraycopy(other.estimate, 0, estimate, 0, MOST_SETS);
            System.arraycopy(other.worked, 0, worked, 0, MOST_SETS);
            System.arraycopy(other.bill, 0, bill, 0, MOST_SETS);
            System.arraycopy(other.loaner, 0, loaner, 0, MOST_SETS);
            System.arraycopy(other.state, 0, state, 0, MOST_SETS);
            System.arraycopy(other.ready, 0, ready, 0, MOST_SETS);
        }

        /** Answers the new set's number, or FULL. */
        int add(int itsFault, int day) {
            if (many >= MOST_SETS) {
                return FULL;
            }
            int set = many;
            fault[set] = itsFault;
            came[set] = day;
            estimate[set] = 0;
            worked[set] = 0;
            bill[set] = 0;
            loaner[set] = 0;
            state[set] = IN;
            ready[set] = NONE;
            many++;
            return set;
        }

        boolean isEstimated(int set) {
            return isIndex(set, many) && state[set] == ESTIMATED;
        }

        boolean isReady(int set) {
            return state[set] == DONE || state[set] == REFUSED;
        }

        boolean isTurnOf(int set, int wantedState, int wantedLoaner) {
            return state[set] == wantedState && loaner[set] == wantedLoaner;
        }

        int inState(int wanted) {
            int sum = 0;
            for (int set = 0; set < many; set++) {
                if (state[set] == wanted) {
                    sum++;
                }
            }
            return sum;
        }

        int withLoaner() {
            int sum = 0;
            for (int set = 0; set < many; set++) {
                sum += loaner[set];
            }
            return sum;
        }
    }

    /** What adds up from the first day on. */
    private static final class Books {
        int billsPaid;
        int feesPaid;
        int soldFor;
        int partsBuiltIn;
        int setsDone;
        int daysToDone;

        void copyFrom(Books other) {
            billsPaid = other.billsPaid;
            feesPaid = other.feesPaid;
            soldFor = other.soldFor;
            partsBuiltIn = other.partsBuiltIn;
            setsDone = other.setsDone;
            daysToDone = other.daysToDone;
        }
    }

    /** The states that undo gives back, the oldest one first; its desks are used again. */
    private static final class History {
        int many;
        private final Desk[] states;

        History() {
            many = 0;
            states = new Desk[MOST_STATES];
            for (int i = 0; i < MOST_STATES; i++) {
                states[i] = new Desk();
            }
        }

        void record(Desk desk) {
            if (many >= MOST_STATES) {
                dropOldest();
            }
            states[many].copyFrom(desk);
            many++;
        }

        private void dropOldest() {
            Desk oldest = states[0];
            for (int i = 1; i < MOST_STATES; i++) {
                states[i - 1] = states[i];
            }
            states[MOST_STATES - 1] = oldest;
            many = MOST_STATES - 1;
        }

        void giveBack(Desk desk) {
            if (many <= 0) {
                return;
            }
            many--;
            desk.copyFrom(states[many]);
        }
    }

    /** The typed text, and where it stops being a text of answers. */
    private static final class AnswerText {
        private static final int AT_START = 0;
        private static final int AFTER_FIRST_DIGIT = 1;
        private static final int AFTER_WHOLE_NUMBER = 2;
        private static final int AFTER_ANSWER = 3;
        private static final int NOWHERE = 4;

        int length;
        final char[] characters;

        AnswerText() {
            length = 0;
            characters = new char[LONGEST_TEXT];
        }

        static boolean isDigit(char character) {
            return character >= '0' && character <= '9';
        }

        /** Answers the index of the fault, or NONE. */
        int fault() {
            int place = AT_START;
            for (int i = 0; i < length; i++) {
                place = placeBehind(place, characters[i]);
                if (place == NOWHERE) {
                    return i;
                }
            }
            return place == AFTER_ANSWER ? NONE : length;
        }

        private static int placeBehind(int place, char character) {
            if (place == AFTER_ANSWER) {
                return character == ',' ? AT_START : NOWHERE;
            }
            if (place == AT_START) {
                if (!isDigit(character)) {
                    return NOWHERE;
                }
                return character == '0' ? AFTER_WHOLE_NUMBER : AFTER_FIRST_DIGIT;
            }
            if (character == 'y' || character == 'n') {
                return AFTER_ANSWER;
            }
            return place == AFTER_FIRST_DIGIT && isDigit(character) ? AFTER_WHOLE_NUMBER : NOWHERE;
        }
    }
}
