/** Each argument of each promise: the least, the greatest, one less, one more, and the farthest ones. */
public final class EdgesOfArgumentsTest {
    private static final Check CHECK = new Check("EdgesOfArgumentsTest");
    private static final int LAST_SET = 2;

    private interface Asked {
        int on(SetRepairs x, int argument);
    }

    public static void main(String[] args) {
        promise2SetRate();
        promise3SetNumber();
        promise4SetPart();
        promise5Order();
        promise6Put();
        promise7Come();
        promise8Estimate();
        promise9Answer();
        promise11Lend();
        promise12Collect();
        promise13Pass();
        promise14Type();
        promise18Restore();
        promise19Rate();
        promise20Number();
        promise21Part();
        promise22CostOf();
        promise23Set();
        promise24WaitsFor();
        promise25Lacks();
        promise26DoneIn();
        promise28Count();
        CHECK.end();
    }

    /** Sets 0 to 2 in this state: 0 in, 1 estimated, 2 approved, 5 refused. */
    private static SetRepairs threeSets(int state) {
        SetRepairs x = new SetRepairs();
        for (int set = 0; set <= LAST_SET; set++) {
            x.come(set);
            if (state > 0) {
                x.estimate(set);
            }
            if (state > 1) {
                x.answer(set, state == 2);
            }
            x.order(set, 2);
        }
        return x;
    }

    private static void dueRange(String call, int state, int least, int greatest, int error, Asked asked) {
        int[] allowed = {least, least + 1, greatest - 1, greatest};
        for (int argument : allowed) {
            int told = asked.on(threeSets(state), argument);
            CHECK.dueTrue(call + " of " + argument + " answered " + told, told >= 0);
        }
        int[] wrong = {least - 1, greatest + 1, Integer.MIN_VALUE, Integer.MAX_VALUE};
        for (int argument : wrong) {
            CHECK.due(call + " of " + argument, asked.on(threeSets(state), argument), error);
        }
    }

    private static void dueSets(String call, int state, Asked asked) {
        dueRange(call, state, 0, LAST_SET, SetRepairs.UNKNOWN, asked);
        CHECK.due(call + " of 0 without sets", asked.on(new SetRepairs(), 0), SetRepairs.UNKNOWN);
    }

    private static void promise2SetRate() {
        CHECK.says("Returns 1; UNKNOWN; BAD_VALUE (no number, out of its range, or -0.0f)");
        dueRange("setRate(.., 1.0f)", 0, 0, 3, SetRepairs.UNKNOWN, (x, which) -> x.setRate(which, 0x3f800000));
        dueRange("setRate(0, ..)", 0, 0x3f800000, 0x40400000, SetRepairs.BAD_VALUE, (x, bits) -> x.setRate(0, bits));
        dueRange("setRate(1, ..)", 0, 0x3f800000, 0x40000000, SetRepairs.BAD_VALUE, (x, bits) -> x.setRate(1, bits));
        dueRange("setRate(2, ..)", 0, 0, 0x447a0000, SetRepairs.BAD_VALUE, (x, bits) -> x.setRate(2, bits));
        dueRange("setRate(3, ..)", 0, 0, 0x3f800000, SetRepairs.BAD_VALUE, (x, bits) -> x.setRate(3, bits));
    }

    private static void promise3SetNumber() {
        CHECK.says("Returns the previous one; UNKNOWN; BAD_VALUE; NOT_POSSIBLE if more loaners are lent than value");
        int[] values = {3, 300, 3, 3, 3};
        Asked which = (x, number) -> x.setNumber(number, values[Math.floorMod(number, 5)]);
        dueRange("setNumber(.., 3)", 0, 0, 4, SetRepairs.UNKNOWN, which);
        int[] least = {1, 100, 0, 1, 0};
        int[] greatest = {24, 20000, 60, 400, 6};
        for (int number = 0; number < 5; number++) {
            int one = number;
            Asked asked = (x, value) -> x.setNumber(one, value);
            dueRange("setNumber(" + one + ", ..)", 0, least[one], greatest[one], SetRepairs.BAD_VALUE, asked);
        }
    }

    private static void promise4SetPart() {
        CHECK.says("Returns the previous price; UNKNOWN; BAD_VALUE; NONE if both are so already.");
        dueRange("setPart(.., 7, 7)", 0, 0, 5, SetRepairs.UNKNOWN, (x, part) -> x.setPart(part, 7, 7));
        for (int part = 0; part < 6; part++) {
            int one = part;
            String call = "setPart(" + part + ", ";
            dueRange(call + ".., 7)", 0, 1, 50000, SetRepairs.BAD_VALUE, (x, price) -> x.setPart(one, price, 7));
            dueRange(call + "7, ..)", 0, 1, 30, SetRepairs.BAD_VALUE, (x, lead) -> x.setPart(one, 7, lead));
        }
    }

    private static void promise5Order() {
        CHECK.says("Returns the day at which they come; UNKNOWN; BAD_VALUE; FULL if there are 12 orders that have not come.");
        dueRange("order(.., 1)", 0, 0, 5, SetRepairs.UNKNOWN, (x, part) -> x.order(part, 1));
        for (int part = 0; part < 6; part++) {
            int one = part;
            dueRange("order(" + part + ", ..)", 0, 1, 9, SetRepairs.BAD_VALUE, (x, many) -> x.order(one, many));
        }
        SetRepairs x = new SetRepairs();
        for (int i = 0; i < 12; i++) {
            CHECK.due("order(3, 1)", x.order(3, 1), 2);
        }
        CHECK.due("order(3, 1) with 12", x.order(3, 1), SetRepairs.FULL);
    }

    private static void promise6Put() {
        CHECK.says("Returns how many there are in stock then; UNKNOWN; BAD_VALUE; FULL if there would be more than 99.");
        dueRange("put(.., 1)", 0, 0, 5, SetRepairs.UNKNOWN, (x, part) -> x.put(part, 1));
        for (int part = 0; part < 6; part++) {
            int one = part;
            dueRange("put(" + part + ", ..)", 0, 1, 9, SetRepairs.BAD_VALUE, (x, many) -> x.put(one, many));
        }
        SetRepairs x = new SetRepairs();
        for (int i = 1; i <= 99; i++) {
            CHECK.due("put(3, 1)", x.put(3, 1), i);
        }
        CHECK.due("put(3, 1) at 99", x.put(3, 1), SetRepairs.FULL);
    }

    private static void promise7Come() {
        CHECK.says("Returns its number; UNKNOWN; FULL if there are 20.");
        dueRange("come(..)", 0, 0, 4, SetRepairs.UNKNOWN, (x, fault) -> x.come(fault));
        SetRepairs x = new SetRepairs();
        for (int set = 0; set < 20; set++) {
            CHECK.due("come(3)", x.come(3), set);
        }
        CHECK.due("come(3) at 20", x.come(3), SetRepairs.FULL);
    }

    private static void promise8Estimate() {
        CHECK.says("Returns the estimate; UNKNOWN; NOT_POSSIBLE if it is not in.");
        dueSets("estimate(..)", 0, (x, set) -> x.estimate(set));
    }

    private static void promise9Answer() {
        CHECK.says("Returns its state then; UNKNOWN; NOT_POSSIBLE if it is not estimated.");
        dueSets("answer(.., true)", 1, (x, set) -> x.answer(set, true));
        dueSets("answer(.., false)", 1, (x, set) -> x.answer(set, false));
    }

    private static void promise11Lend() {
        CHECK.says("Returns how many loaners are there then; UNKNOWN; NOT_POSSIBLE if its state is 4 or more");
        dueSets("lend(..)", 0, (x, set) -> x.lend(set));
    }

    private static void promise12Collect() {
        CHECK.says("Returns what is paid; UNKNOWN; NOT_POSSIBLE if it is not done or refused.");
        dueSets("collect(..)", 5, (x, set) -> x.collect(set));
    }

    private static void promise13Pass() {
        CHECK.says("Returns how many sets are done in them; BAD_VALUE; NOT_POSSIBLE if the day would be more than 9999.");
        dueRange("pass(..)", 0, 1, 60, SetRepairs.BAD_VALUE, (x, days) -> x.pass(days));
    }

    private static void promise14Type() {
        CHECK.says("Returns the length of the text then; FULL if it has 60 characters.");
        SetRepairs x = new SetRepairs();
        for (int length = 1; length <= 60; length++) {
            CHECK.due("type(" + length + ")", x.type((char) length), length);
        }
        CHECK.due("type(61) at 60", x.type((char) 61), SetRepairs.FULL);
    }

    private static void promise18Restore() {
        CHECK.says("Returns the day then; NONE if there is no snapshot.");
        SetRepairs x = threeSets(0);
        CHECK.due("restore() ahead of keep()", x.restore(), SetRepairs.NONE);
        x.pass(60);
        x.keep();
        x.pass(60);
        CHECK.due("restore() behind keep()", x.restore(), 60);
    }

    private static void promise19Rate() {
        CHECK.says("Returns the rate.");
        SetRepairs x = new SetRepairs();
        CHECK.dueFloat("rate(0)", x.rate(0), 1.4f);
        CHECK.dueFloat("rate(3)", x.rate(3), 0.6f);
        CHECK.dueFloat("rate(-1)", x.rate(-1), Float.NaN);
        CHECK.dueFloat("rate(4)", x.rate(4), Float.NaN);
        CHECK.dueFloat("rate(min)", x.rate(Integer.MIN_VALUE), Float.NaN);
        CHECK.dueFloat("rate(max)", x.rate(Integer.MAX_VALUE), Float.NaN);
    }

    private static void promise20Number() {
        CHECK.says("Returns the number; UNKNOWN.");
        dueRange("number(..)", 0, 0, 4, SetRepairs.UNKNOWN, (x, which) -> x.number(which));
    }

    private static void promise21Part() {
        CHECK.says("Returns the number; UNKNOWN; BAD_VALUE.");
        for (int what = 0; what < 6; what++) {
            int one = what;
            dueRange("part(.., " + what + ")", 2, 0, 5, SetRepairs.UNKNOWN, (x, part) -> x.part(part, one));
        }
        dueRange("part(0, ..)", 2, 0, 5, SetRepairs.BAD_VALUE, (x, what) -> x.part(0, what));
        dueRange("part(5, ..)", 2, 0, 5, SetRepairs.BAD_VALUE, (x, what) -> x.part(5, what));
    }

    private static void promise22CostOf() {
        CHECK.says("Returns its cost as prices are now; UNKNOWN.");
        dueRange("costOf(..)", 0, 0, 4, SetRepairs.UNKNOWN, (x, fault) -> x.costOf(fault));
    }

    private static void promise23Set() {
        CHECK.says("3 for the hours that were worked, 4 for its bill");
        for (int what = 0; what < 9; what++) {
            int one = what;
            dueSets("set(.., " + what + ")", 5, (x, set) -> x.set(set, one));
        }
        dueRange("set(0, ..)", 5, 0, 8, SetRepairs.BAD_VALUE, (x, what) -> x.set(0, what));
        dueRange("set(2, ..)", 5, 0, 8, SetRepairs.BAD_VALUE, (x, what) -> x.set(2, what));
    }

    private static void promise24WaitsFor() {
        CHECK.says("4 for hours, 5 to be collected; UNKNOWN; NONE if it is collected or sold.");
        dueSets("waitsFor(..)", 0, (x, set) -> x.waitsFor(set));
    }

    private static void promise25Lacks() {
        CHECK.says("Returns the part; UNKNOWN; NONE if its state is not 2, or there is none.");
        dueSets("lacks(..)", 2, (x, set) -> x.lacks(set));
    }

    private static void promise26DoneIn() {
        CHECK.says("Returns the days, up to 200 (whatever the day is); UNKNOWN; NONE if its state is neither 2 nor 3");
        dueSets("doneIn(..)", 2, (x, set) -> x.doneIn(set));
    }

    private static void promise28Count() {
        CHECK.says("Returns the number; BAD_VALUE.");
        dueRange("count(..)", 0, 0, 17, SetRepairs.BAD_VALUE, (x, what) -> x.count(what));
    }
}
