import java.util.Arrays;

/** The edges that promises 19 to 28, which only tell, name themselves, sentence by sentence. */
public final class EdgesOfAnswersTest {
    private static final Check CHECK = new Check("EdgesOfAnswersTest");
    private static final int[] FAR = {-2, 19, 100, Integer.MIN_VALUE, Integer.MAX_VALUE};

    public static void main(String[] args) {
        noRateIsNoNumber();
        numberKnowsFive();
        lackingIsNotBelow0();
        lackingOfApprovedSetsAlone();
        partTellsSix();
        readyIfItWas();
        feeUntilItIsGone();
        setTellsNine();
        waitsForInEachState();
        waitsForOrdersThatAreEnough();
        lacksInEachState();
        lacksTheLowestPart();
        doneInEachState();
        doneInUpTo200();
        doneInWhateverTheDayIs();
        doneInIfOnlyDaysPass();
        doneInIsNoAct();
        meanOfNone();
        meanOfThoseThatAreGone();
        countOfEachState();
        countOfOrdersAndLoaners();
        countOfBillsAndFees();
        countOfSales();
        countOfPartsBuiltIn();
        countOfHistoryAndText();
        countTells18();
        CHECK.end();
    }

    private static void noRateIsNoNumber() {
        CHECK.says("Methods that return a float tell a NaN (0.0f / 0.0f) if an argument is wrong.");
        SetRepairs x = new SetRepairs();
        int[] wrong = {-1, 4, 5, Integer.MIN_VALUE, Integer.MAX_VALUE};
        for (int which : wrong) {
            CHECK.dueFloat("rate(" + which + ")", x.rate(which), Float.NaN);
        }
        CHECK.dueFloat("rate(0)", x.rate(0), 1.4f);
        CHECK.dueFloat("rate(3)", x.rate(3), 0.6f);
    }

    private static void numberKnowsFive() {
        CHECK.says("Returns the number; UNKNOWN.");
        SetRepairs x = new SetRepairs();
        int[] wrong = {-1, 5, 6, Integer.MIN_VALUE, Integer.MAX_VALUE};
        for (int which : wrong) {
            CHECK.due("number(" + which + ")", x.number(which), SetRepairs.UNKNOWN);
        }
        CHECK.due("number(0)", x.number(0), 8);
        CHECK.due("number(4)", x.number(4), 2);
    }

    private static void lackingIsNotBelow0() {
        CHECK.says("less what is in stock and not reserved and less what is on order (0 if that is below 0)");
        SetRepairs x = Desks.approved(2);
        CHECK.due("part(2, 5) with none", x.part(2, 5), 2);
        x.put(2, 1);
        CHECK.due("part(2, 5) with one in stock", x.part(2, 5), 1);
        x.order(2, 1);
        CHECK.due("part(2, 5) with one on order", x.part(2, 5), 0);
        x.order(2, 9);
        CHECK.due("part(2, 5) with 10 on order", x.part(2, 5), 0);
        x.put(2, 9);
        CHECK.due("part(2, 5) with 8 that are free", x.part(2, 5), 0);
        x = Desks.approved(0, 0);
        x.put(0, 1);
        CHECK.due("part(0, 5) with one reserved", x.part(0, 5), 1);
    }

    private static void lackingOfApprovedSetsAlone() {
        CHECK.says("5 for what is lacking: how many of it approved sets need");
        for (int state = 0; state < 8; state++) {
            CHECK.due("part(0, 5) in the state " + state, Desks.inState(state).part(0, 5), state == 2 ? 1 : 0);
        }
        SetRepairs x = Desks.approved(2, 2, 3, 0);
        int[] due = {1, 0, 4, 1, 1, 0};
        for (int part = 0; part < 6; part++) {
            CHECK.due("part(" + part + ", 5)", x.part(part, 5), due[part]);
        }
    }

    private static void partTellsSix() {
        CHECK.says("`what`: 0 for its price, 1 for its lead, 2 for its stock, 3 for what is reserved");
        SetRepairs x = new SetRepairs();
        for (int part = 0; part < 6; part++) {
            for (int what = 0; what < 6; what++) {
                CHECK.dueTrue("part(" + part + ", " + what + ") is an error", x.part(part, what) >= 0);
            }
            CHECK.due("part(" + part + ", -1)", x.part(part, -1), SetRepairs.BAD_VALUE);
            CHECK.due("part(" + part + ", 6)", x.part(part, 6), SetRepairs.BAD_VALUE);
            for (int what : FAR) {
                CHECK.due("part(" + part + ", " + what + ")", x.part(part, what), SetRepairs.BAD_VALUE);
            }
        }
    }

    private static void readyIfItWas() {
        CHECK.says("7 for the day at which it was ready (NONE if it was not)");
        int[] due = {-5, -5, -5, -5, 1, 0, 1, 1};
        for (int state = 0; state < 8; state++) {
            CHECK.due("set(0, 7) in the state " + state, Desks.inState(state).set(0, 7), due[state]);
        }
    }

    private static void feeUntilItIsGone() {
        CHECK.says("8 for the storage fee if it was collected now (NONE if it is not ready, or gone)");
        int[] due = {-5, -5, -5, -5, 0, 0, -5, -5};
        for (int state = 0; state < 8; state++) {
            CHECK.due("set(0, 8) in the state " + state, Desks.inState(state).set(0, 8), due[state]);
        }
        SetRepairs x = Desks.inState(4);
        x.pass(60);
        int fee = x.set(0, 8);
        CHECK.due("set(0, 8) 53 days beyond the grace", fee, 1351);
        CHECK.due("collect(0)", x.collect(0), 9140 + fee);
    }

    private static void setTellsNine() {
        CHECK.says("4 for its bill, 5 for whether a loaner is lent (1, otherwise 0), 6 for its state");
        SetRepairs x = Desks.inState(4);
        for (int what = 0; what < 9; what++) {
            CHECK.dueTrue("set(0, " + what + ") is an error", x.set(0, what) >= 0);
        }
        CHECK.due("set(0, -1)", x.set(0, -1), SetRepairs.BAD_VALUE);
        CHECK.due("set(0, 9)", x.set(0, 9), SetRepairs.BAD_VALUE);
        for (int what : FAR) {
            CHECK.due("set(0, " + what + ")", x.set(0, what), SetRepairs.BAD_VALUE);
        }
    }

    private static void waitsForInEachState() {
        CHECK.says("4 for hours, 5 to be collected; UNKNOWN; NONE if it is collected or sold");
        int[] due = {0, 1, 3, 4, 5, 5, -5, -5};
        for (int state = 0; state < 8; state++) {
            CHECK.due("waitsFor(0) in the state " + state, Desks.inState(state).waitsFor(0), due[state]);
        }
    }

    private static void waitsForOrdersThatAreEnough() {
        CHECK.says("of each part it needs, what is in stock and not reserved and what is on order together are enough");
        SetRepairs x = Desks.approved(2, 3);
        x.order(2, 1);
        CHECK.due("waitsFor(0) with one of two on order", x.waitsFor(0), 3);
        x.put(2, 1);
        CHECK.due("waitsFor(0) with one there, one on order", x.waitsFor(0), 2);
        x.order(3, 9);
        CHECK.due("waitsFor(1) with one of two parts on order", x.waitsFor(1), 3);
        x.put(4, 1);
        CHECK.due("waitsFor(1) with one there, one on order", x.waitsFor(1), 2);
        x = Desks.approved(0, 0);
        x.put(0, 1);
        CHECK.due("waitsFor(1) with one that is reserved", x.waitsFor(1), 3);
        x.order(0, 1);
        CHECK.due("waitsFor(1) with one on order", x.waitsFor(1), 2);
    }

    private static void lacksInEachState() {
        CHECK.says("Returns the part; UNKNOWN; NONE if its state is not 2, or there is none.");
        for (int state = 0; state < 8; state++) {
            int due = state == 2 ? 0 : SetRepairs.NONE;
            CHECK.due("lacks(0) in the state " + state, Desks.inState(state).lacks(0), due);
        }
    }

    private static void lacksTheLowestPart() {
        CHECK.says("the lowest part that holds a set back: of which there is less in stock and not reserved than it needs");
        SetRepairs x = Desks.approved(3, 3, 2);
        CHECK.due("lacks(0) with none", x.lacks(0), 3);
        x.order(3, 1);
        CHECK.due("lacks(0) with part 3 on order", x.lacks(0), 3);
        x.put(4, 1);
        CHECK.due("lacks(0) with part 4", x.lacks(0), 3);
        x.put(3, 1);
        CHECK.due("lacks(1) with both reserved", x.lacks(1), 3);
        x.put(3, 1);
        CHECK.due("lacks(1) with part 3", x.lacks(1), 4);
        x.put(2, 1);
        CHECK.due("lacks(2) with one of two", x.lacks(2), 2);
        x.put(2, 1);
        CHECK.due("lacks(2) with two of two", x.lacks(2), SetRepairs.NONE);
    }

    private static void doneInEachState() {
        CHECK.says("NONE if its state is neither 2 nor 3, or it is later");
        for (int state = 0; state < 8; state++) {
            int due = state == 3 ? 1 : SetRepairs.NONE;
            CHECK.due("doneIn(0) in the state " + state, Desks.inState(state).doneIn(0), due);
        }
        SetRepairs x = Desks.inState(2);
        x.order(0, 1);
        CHECK.due("doneIn(0) in the state 2, with an order", x.doneIn(0), 2);
        x.setNumber(0, 1);
        CHECK.due("doneIn(0) with an hour a day", x.doneIn(0), 3);
        x.pass(2);
        CHECK.due("doneIn(0) with an hour to go", x.doneIn(0), 1);
    }

    /** No desk needs more days than this one: 20 sets of 5 hours whose parts come in 30 days. */
    private static void doneInUpTo200() {
        CHECK.says("Returns the days, up to 200 (whatever the day is)");
        int[] faults = new int[20];
        Arrays.fill(faults, 3);
        SetRepairs x = Desks.approved(faults);
        x.setNumber(0, 1);
        for (int part = 3; part < 5; part++) {
            x.setPart(part, 100, 30);
            x.order(part, 9);
            x.order(part, 9);
            x.order(part, 2);
        }
        CHECK.due("doneIn(0)", x.doneIn(0), 34);
        CHECK.due("doneIn(18)", x.doneIn(18), 124);
        CHECK.due("doneIn(19)", x.doneIn(19), 129);
        x.pass(60);
        x.pass(60);
        CHECK.due("pass(8)", x.pass(8), 1);
        CHECK.due("doneIn(19) an hour ahead", x.doneIn(19), 1);
        CHECK.due("pass(1)", x.pass(1), 1);
    }

    private static void doneInWhateverTheDayIs() {
        CHECK.says("(whatever the day is)");
        SetRepairs x = Desks.lastDay();
        x.estimate(x.come(1));
        x.answer(0, true);
        x.setPart(1, 100, 30);
        x.order(1, 1);
        CHECK.due("pass(1)", x.pass(1), SetRepairs.NOT_POSSIBLE);
        CHECK.due("doneIn(0)", x.doneIn(0), 30);
        CHECK.due("count(0)", x.count(0), 9999);
    }

    private static void doneInIfOnlyDaysPass() {
        CHECK.says("Tells in how many days a set is done, if only days pass.");
        SetRepairs x = Desks.approved(2, 2, 0);
        x.order(2, 2);
        x.setNumber(0, 2);
        CHECK.due("doneIn(0)", x.doneIn(0), 2);
        CHECK.due("doneIn(1): the parts go to set 0", x.doneIn(1), SetRepairs.NONE);
        CHECK.due("doneIn(2): nobody ordered its part", x.doneIn(2), SetRepairs.NONE);
        x.lend(1);
        CHECK.due("doneIn(1) with a loaner", x.doneIn(1), 2);
        CHECK.due("doneIn(0) then", x.doneIn(0), SetRepairs.NONE);
        x.put(0, 1);
        CHECK.due("doneIn(2) with its part", x.doneIn(2), 1);
    }

    private static void doneInIsNoAct() {
        CHECK.says("if only days pass");
        SetRepairs x = Desks.approved(0, 1);
        x.put(0, 1);
        x.order(1, 1);
        int states = x.count(16);
        String before = Desks.told(x);
        CHECK.due("doneIn(0)", x.doneIn(0), 1);
        CHECK.due("doneIn(1)", x.doneIn(1), 2);
        CHECK.due("count(16)", x.count(16), states);
        CHECK.dueTrue("doneIn changed the desk", before.equals(Desks.told(x)));
    }

    private static void meanOfNone() {
        CHECK.says("a NaN if there was none");
        for (int state = 0; state < 8; state++) {
            float due = state == 4 || state >= 6 ? 1.0f : Float.NaN;
            CHECK.dueFloat("meanDays() in the state " + state, Desks.inState(state).meanDays(), due);
        }
        SetRepairs x = Desks.inState(4);
        x.undo();
        CHECK.dueFloat("meanDays() behind undo", x.meanDays(), Float.NaN);
    }

    private static void meanOfThoseThatAreGone() {
        CHECK.says("Returns the sum of these days of all sets that were done (also those that are gone) / how many there were");
        SetRepairs x = Desks.approved(0, 0, 0);
        x.setNumber(3, 2);
        x.put(0, 1);
        x.pass(1);
        x.collect(0);
        x.put(0, 1);
        x.pass(3);
        CHECK.due("set(1, 6)", x.set(1, 6), 7);
        CHECK.dueFloat("meanDays() of 1 and 2", x.meanDays(), 1.5f);
        x.put(0, 1);
        x.pass(1);
        CHECK.dueFloat("meanDays() of 1, 2 and 5", x.meanDays(), 8.0f / 3.0f);
        x.estimate(x.come(0));
        x.answer(3, true);
        x.put(0, 1);
        x.pass(1);
        CHECK.dueFloat("meanDays() with one that came later", x.meanDays(), 9.0f / 4.0f);
    }

    private static void countOfEachState() {
        CHECK.says("0 for the day, 1 for sets, 2 to 9 for those in the states 0 to 7");
        int[] days = {0, 0, 0, 0, 1, 0, 1, 2};
        for (int state = 0; state < 8; state++) {
            SetRepairs x = Desks.inState(state);
            CHECK.due("count(0)", x.count(0), days[state]);
            CHECK.due("count(1)", x.count(1), 1);
            for (int what = 2; what < 10; what++) {
                int due = what == state + 2 ? 1 : 0;
                CHECK.due("count(" + what + ") in the state " + state, x.count(what), due);
            }
        }
    }

    private static void countOfOrdersAndLoaners() {
        CHECK.says("10 for orders that have not come, 11 for loaners that are there");
        SetRepairs x = Desks.estimated(0);
        x.order(0, 9);
        x.order(0, 1);
        CHECK.due("count(10)", x.count(10), 2);
        x.lend(0);
        CHECK.due("count(11)", x.count(11), 1);
        x.setNumber(4, 1);
        CHECK.due("count(11) with the only one lent", x.count(11), 0);
        x.setNumber(4, 6);
        CHECK.due("count(11) with one of six lent", x.count(11), 5);
        x.pass(2);
        CHECK.due("count(10)", x.count(10), 0);
    }

    private static void countOfBillsAndFees() {
        CHECK.says("12 for all that was paid for sets so far (bills), 13 for storage fees so far");
        SetRepairs x = Desks.approved(0, 1);
        x.come(2);
        x.estimate(2);
        x.put(0, 1);
        x.put(1, 1);
        x.pass(1);
        x.answer(2, false);
        x.pass(8);
        CHECK.due("count(12) ahead of all", x.count(12), 0);
        CHECK.due("count(13) ahead of all", x.count(13), 0);
        x.collect(0);
        CHECK.due("count(12) of one", x.count(12), 9140);
        CHECK.due("count(13) of one", x.count(13), 25);
        x.pass(1);
        x.collect(1);
        CHECK.due("count(12) of two", x.count(12), 9140 + 13640);
        CHECK.due("count(13) of two", x.count(13), 25 + 51);
        x.collect(2);
        CHECK.due("count(12) with a refused one", x.count(12), 9140 + 13640);
        CHECK.due("count(13) with a refused one", x.count(13), 25 + 51 + 51);
    }

    private static void countOfSales() {
        CHECK.says("14 for what sold sets brought so far");
        SetRepairs x = Desks.approved(0, 1, 2);
        x.setRate(3, Desks.bits(0.5f));
        x.setNumber(3, 1);
        x.put(0, 1);
        x.pass(1);
        CHECK.due("count(14) ahead of all", x.count(14), 0);
        x.put(1, 1);
        x.put(2, 2);
        x.pass(1);
        CHECK.due("count(14) of one", x.count(14), 4570);
        x.pass(1);
        CHECK.due("count(14) of three, two of them on a day", x.count(14), 4570 + 6820 + 2390);
        CHECK.due("count(12)", x.count(12), 0);
    }

    private static void countOfPartsBuiltIn() {
        CHECK.says("15 for what parts that were built in cost so far (by their prices as the sets were done)");
        SetRepairs x = Desks.approved(2, 3);
        x.put(2, 2);
        x.put(3, 1);
        x.put(4, 1);
        x.setNumber(0, 1);
        x.setPart(2, 50000, 2);
        CHECK.due("count(15) of none done", x.count(15), 0);
        x.pass(1);
        CHECK.due("count(15) of one done", x.count(15), 100000);
        x.setPart(2, 1, 2);
        x.pass(4);
        x.setPart(3, 7, 2);
        CHECK.due("count(15) of one done, one in work", x.count(15), 100000);
        x.pass(1);
        CHECK.due("count(15) of both done", x.count(15), 100107);
    }

    private static void countOfHistoryAndText() {
        CHECK.says("16 for the states in the history, 17 for the length of the text");
        SetRepairs x = new SetRepairs();
        for (int i = 0; i < 61; i++) {
            x.type('0');
            x.pass(1);
        }
        CHECK.due("count(16)", x.count(16), 4);
        CHECK.due("count(17)", x.count(17), 60);
        x.undo();
        x.clearText();
        CHECK.due("count(16)", x.count(16), 3);
        CHECK.due("count(17)", x.count(17), 0);
    }

    private static void countTells18() {
        CHECK.says("Returns the number; BAD_VALUE.");
        SetRepairs x = new SetRepairs();
        for (int what = 0; what <= 17; what++) {
            CHECK.dueTrue("count(" + what + ") is an error", x.count(what) >= 0);
        }
        CHECK.due("count(-1)", x.count(-1), SetRepairs.BAD_VALUE);
        CHECK.due("count(18)", x.count(18), SetRepairs.BAD_VALUE);
        for (int what : FAR) {
            CHECK.due("count(" + what + ")", x.count(what), SetRepairs.BAD_VALUE);
        }
    }
}
