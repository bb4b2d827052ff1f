/** The edges that the promises name themselves, sentence by sentence; RefusedTest looks at their errors. */
public final class EdgesOfCallsTest {
    private static final Check CHECK = new Check("EdgesOfCallsTest");

    public static void main(String[] args) {
        newDeskIsEmpty();
        setRateRefuses();
        setRateToTheSame();
        setNumberBelowLoaners();
        setNumberToTheSame();
        setPartLeavesOrders();
        setPartToTheSame();
        putUpTo99();
        putReserves();
        estimateOfEachState();
        answerOfEachState();
        answersAllOrNone();
        answersWhenTheirTurnComes();
        answersAreOneAct();
        textStays();
        answersTellThoseInWork();
        lendOfEachState();
        lendTwice();
        collectOfEachState();
        stockBeyond99();
        passOneTo60();
        passUpToDay9999();
        passAsDaysOneByOne();
        typeAnyCharacter();
        clearTextTellsTheLength();
        undoTellsWhatIsLeft();
        keepInPlaceOfTheOther();
        restoreLeavesTheSnapshot();
        CHECK.end();
    }

    private static void newDeskIsEmpty() {
        CHECK.says("Creates an empty desk.");
        SetRepairs x = new SetRepairs();
        for (int what = 0; what <= 17; what++) {
            CHECK.due("count(" + what + ")", x.count(what), what == 11 ? 2 : 0);
        }
        for (int part = 0; part < 6; part++) {
            CHECK.due("part(" + part + ", 4)", x.part(part, 4), 0);
        }
        CHECK.due("set(0, 0)", x.set(0, 0), SetRepairs.UNKNOWN);
    }

    private static void setRateRefuses() {
        CHECK.says("BAD_VALUE (no number, out of its range, or -0.0f)");
        int[] wrong = {0x7fc00000, 0xffc00000, 0x7f800000, 0xff800000, 0x80000000, 0x80000001, 0x447a0001};
        for (int which = 0; which < 4; which++) {
            SetRepairs x = new SetRepairs();
            for (int bits : wrong) {
                CHECK.due("setRate(" + which + ", " + bits + ")", x.setRate(which, bits), SetRepairs.BAD_VALUE);
            }
        }
    }

    private static void setRateToTheSame() {
        CHECK.says("BAD_VALUE (no number, out of its range, or -0.0f); NONE if it is so already.");
        SetRepairs x = new SetRepairs();
        CHECK.due("setRate to the first one", x.setRate(2, Desks.bits(25.5f)), SetRepairs.NONE);
        CHECK.due("setRate to the next float", x.setRate(2, Desks.bits(25.5f) + 1), 1);
        CHECK.due("setRate back", x.setRate(2, Desks.bits(25.5f)), 1);
        CHECK.due("setRate(2, 0.0f)", x.setRate(2, 0), 1);
        CHECK.due("setRate(2, 0.0f) again", x.setRate(2, 0), SetRepairs.NONE);
        CHECK.due("setRate(2, -0.0f) at 0.0f", x.setRate(2, 0x80000000), SetRepairs.BAD_VALUE);
        CHECK.due("setRate(2, the smallest float) at 0.0f", x.setRate(2, 1), 1);
        CHECK.due("count(16)", x.count(16), 4);
    }

    private static void setNumberBelowLoaners() {
        CHECK.says("NOT_POSSIBLE if more loaners are lent than value (which 4)");
        SetRepairs x = Desks.estimated(0, 0, 0);
        x.setNumber(4, 6);
        for (int set = 0; set < 3; set++) {
            x.lend(set);
        }
        CHECK.due("setNumber(4, 2) with 3 lent", x.setNumber(4, 2), SetRepairs.NOT_POSSIBLE);
        CHECK.due("setNumber(4, 0) with 3 lent", x.setNumber(4, 0), SetRepairs.NOT_POSSIBLE);
        CHECK.due("setNumber(2, 2) with 3 lent", x.setNumber(2, 2), 7);
        CHECK.due("setNumber(4, 3) with 3 lent", x.setNumber(4, 3), 6);
        CHECK.due("count(11)", x.count(11), 0);
        x.answer(0, false);
        CHECK.due("setNumber(4, 2) with a refused set's loaner out", x.setNumber(4, 2), SetRepairs.NOT_POSSIBLE);
        x.collect(0);
        CHECK.due("setNumber(4, 2) with 2 lent", x.setNumber(4, 2), 3);
    }

    private static void setNumberToTheSame() {
        CHECK.says("NOT_POSSIBLE if more loaners are lent than value (which 4); NONE if it is so already.");
        SetRepairs x = Desks.estimated(0, 0);
        x.lend(0);
        x.lend(1);
        int[] first = {8, 4500, 7, 90, 2};
        for (int which = 0; which < 5; which++) {
            CHECK.due("setNumber(" + which + ", ..)", x.setNumber(which, first[which]), SetRepairs.NONE);
        }
        CHECK.due("setNumber(2, 0)", x.setNumber(2, 0), 7);
        CHECK.due("setNumber(2, 0) again", x.setNumber(2, 0), SetRepairs.NONE);
        CHECK.due("setNumber(2, 1): the previous one is 0", x.setNumber(2, 1), 0);
    }

    private static void setPartLeavesOrders() {
        CHECK.says("orders that were made stay");
        SetRepairs x = new SetRepairs();
        x.setPart(1, 100, 30);
        x.order(1, 4);
        x.setPart(1, 1, 1);
        CHECK.due("part(1, 4)", x.part(1, 4), 4);
        CHECK.due("order(1, 5)", x.order(1, 5), 1);
        x.pass(29);
        CHECK.due("part(1, 2) at day 29", x.part(1, 2), 5);
        x.pass(1);
        CHECK.due("part(1, 2) at day 30", x.part(1, 2), 9);
    }

    private static void setPartToTheSame() {
        CHECK.says("NONE if both are so already");
        SetRepairs x = new SetRepairs();
        CHECK.due("setPart(4, 100, 2)", x.setPart(4, 100, 2), SetRepairs.NONE);
        CHECK.due("setPart(4, 100, 3): only the price is so", x.setPart(4, 100, 3), 100);
        CHECK.due("setPart(4, 101, 3): only the lead is so", x.setPart(4, 101, 3), 100);
        CHECK.due("setPart(4, 101, 3)", x.setPart(4, 101, 3), SetRepairs.NONE);
        CHECK.due("setPart(3, 101, 3): of another part", x.setPart(3, 101, 3), 100);
    }

    private static void putUpTo99() {
        CHECK.says("FULL if there would be more than 99");
        SetRepairs x = new SetRepairs();
        for (int i = 1; i <= 10; i++) {
            CHECK.due("put(4, 9)", x.put(4, 9), 9 * i);
        }
        CHECK.due("put(4, 9)", x.put(4, 9), 99);
        CHECK.due("put(4, 1) at 99", x.put(4, 1), SetRepairs.FULL);
        x.undo();
        CHECK.due("put(4, 1)", x.put(4, 1), 91);
        CHECK.due("put(4, 9) at 91", x.put(4, 9), SetRepairs.FULL);
        CHECK.due("put(4, 8) at 91", x.put(4, 8), 99);
        CHECK.due("put(3, 9)", x.put(3, 9), 9);
    }

    private static void putReserves() {
        CHECK.says("Puts parts into the stock at once; parts are reserved then.");
        SetRepairs x = Desks.approved(0, 0);
        CHECK.due("put(0, 9): the reserved ones are in stock", x.put(0, 9), 9);
        CHECK.due("part(0, 3)", x.part(0, 3), 2);
        CHECK.due("count(5)", x.count(5), 2);
    }

    private static void estimateOfEachState() {
        CHECK.says("Returns the estimate; UNKNOWN; NOT_POSSIBLE if it is not in.");
        for (int state = 0; state < 8; state++) {
            SetRepairs x = Desks.inState(state);
            int due = state == 0 ? 9140 : SetRepairs.NOT_POSSIBLE;
            CHECK.due("estimate(0) in the state " + state, x.estimate(0), due);
            CHECK.due("set(0, 6) then", x.set(0, 6), Math.max(1, state));
        }
    }

    private static void answerOfEachState() {
        CHECK.says("Returns its state then; UNKNOWN; NOT_POSSIBLE if it is not estimated.");
        for (int state = 0; state < 8; state++) {
            SetRepairs x = Desks.inState(state);
            SetRepairs y = Desks.inState(state);
            boolean is = state == 1;
            CHECK.due("answer(0, true) in the state " + state, x.answer(0, true), is ? 2 : SetRepairs.NOT_POSSIBLE);
            CHECK.due("set(0, 6) then", x.set(0, 6), is ? 2 : state);
            CHECK.due("answer(0, false) in the state " + state, y.answer(0, false), is ? 5 : SetRepairs.NOT_POSSIBLE);
            CHECK.due("set(0, 6) then", y.set(0, 6), is ? 5 : state);
        }
        SetRepairs x = Desks.estimated(0);
        x.put(0, 1);
        CHECK.due("answer(0, true) with a part there", x.answer(0, true), 3);
    }

    private static void answersAllOrNone() {
        CHECK.says("one after the other; all of them, or none");
        SetRepairs x = Desks.estimated(0, 0, 0);
        x.put(0, 2);
        CHECK.due("the last one fails", Desks.readAnswers(x, "0y,1n,3y"), SetRepairs.NOT_POSSIBLE);
        CHECK.due("the first one fails", Desks.readAnswers(x, "3y,1n,0y"), SetRepairs.NOT_POSSIBLE);
        CHECK.due("count(3)", x.count(3), 3);
        CHECK.due("part(0, 3)", x.part(0, 3), 0);
        CHECK.due("none fails", Desks.readAnswers(x, "0y,1n,2y"), 2);
        CHECK.due("count(3)", x.count(3), 0);
    }

    private static void answersWhenTheirTurnComes() {
        CHECK.says("NOT_POSSIBLE if any answer would return an error when its turn comes");
        SetRepairs x = Desks.estimated(0, 0);
        x.come(0);
        String[] texts = {"0y,0y", "0n,0n", "0y,0n", "2y", "3y", "20n", "99y"};
        for (String text : texts) {
            CHECK.due("readAnswers of " + text, Desks.readAnswers(x, text), SetRepairs.NOT_POSSIBLE);
        }
        for (int state = 0; state < 8; state++) {
            int due = state == 1 ? 0 : SetRepairs.NOT_POSSIBLE;
            CHECK.due("readAnswers in the state " + state, Desks.readAnswers(Desks.inState(state), "0y"), due);
        }
    }

    private static void answersAreOneAct() {
        CHECK.says("This is one act.");
        SetRepairs x = Desks.estimated(0, 0, 0);
        x.keep();
        x.restore();
        CHECK.due("readAnswers", Desks.readAnswers(x, "2n,1y,0y"), 0);
        CHECK.due("undo()", x.undo(), 3);
        CHECK.due("count(3) behind one undo", x.count(3), 3);
    }

    private static void textStays() {
        CHECK.says("Does the answers of the text, which stays");
        SetRepairs x = Desks.estimated(0);
        CHECK.due("readAnswers", Desks.readAnswers(x, "0y"), 0);
        CHECK.due("count(17)", x.count(17), 2);
        CHECK.due("readAnswers again", x.readAnswers(), SetRepairs.NOT_POSSIBLE);
        x.undo();
        CHECK.due("readAnswers behind undo", x.readAnswers(), 0);
        CHECK.due("type(',')", x.type(','), 3);
        CHECK.due("readAnswers with a fault", x.readAnswers(), -103);
        CHECK.due("count(17) then", x.count(17), 3);
    }

    private static void answersTellThoseInWork() {
        CHECK.says("Returns how many sets are in work by them");
        SetRepairs x = Desks.estimated(0, 0, 0, 0, 0);
        x.put(0, 3);
        x.answer(4, true);
        CHECK.due("none of one", Desks.readAnswers(x, "0n"), 0);
        CHECK.due("two of three, with one in work ahead of it", Desks.readAnswers(x, "3y,2y,1y"), 2);
        CHECK.due("count(5)", x.count(5), 3);
    }

    private static void lendOfEachState() {
        CHECK.says("NOT_POSSIBLE if its state is 4 or more, or one is lent for it already");
        for (int state = 4; state < 8; state++) {
            SetRepairs x = Desks.inState(state);
            CHECK.due("lend(0) in the state " + state, x.lend(0), SetRepairs.NOT_POSSIBLE);
            CHECK.due("count(11)", x.count(11), 2);
        }
        CHECK.due("lend(0) in the state 3", Desks.inState(3).lend(0), 1);
    }

    private static void lendTwice() {
        CHECK.says("or one is lent for it already; FULL if none is there");
        SetRepairs x = Desks.estimated(0, 0, 0);
        CHECK.due("lend(0)", x.lend(0), 1);
        CHECK.due("lend(0) with one there", x.lend(0), SetRepairs.NOT_POSSIBLE);
        CHECK.due("lend(1)", x.lend(1), 0);
        CHECK.due("lend(1) with none there", x.lend(1), SetRepairs.NOT_POSSIBLE);
        CHECK.due("lend(2) with none there", x.lend(2), SetRepairs.FULL);
    }

    private static void collectOfEachState() {
        CHECK.says("Returns what is paid; UNKNOWN; NOT_POSSIBLE if it is not done or refused.");
        int[] due = {-4, -4, -4, -4, 9140, 0, -4, -4};
        for (int state = 0; state < 8; state++) {
            SetRepairs x = Desks.inState(state);
            CHECK.due("collect(0) in the state " + state, x.collect(0), due[state]);
            CHECK.due("set(0, 6) then", x.set(0, 6), due[state] == -4 ? state : 6);
        }
    }

    private static void stockBeyond99() {
        CHECK.says("(The stock can grow beyond 99 by orders.)");
        SetRepairs x = new SetRepairs();
        for (int i = 0; i < 11; i++) {
            x.put(2, 9);
        }
        for (int i = 0; i < 12; i++) {
            CHECK.due("order(2, 9)", x.order(2, 9), 2);
        }
        x.pass(2);
        CHECK.due("part(2, 2)", x.part(2, 2), 207);
        CHECK.due("put(2, 1)", x.put(2, 1), SetRepairs.FULL);
        x.estimate(x.come(2));
        CHECK.due("answer(0, true)", x.answer(0, true), 3);
        CHECK.due("part(2, 3)", x.part(2, 3), 2);
    }

    private static void passOneTo60() {
        CHECK.says("`days`: 1 to 60");
        SetRepairs x = new SetRepairs();
        int[] wrong = {0, 61, -1, 9999, 10000, Integer.MIN_VALUE, Integer.MAX_VALUE};
        for (int days : wrong) {
            CHECK.due("pass(" + days + ")", x.pass(days), SetRepairs.BAD_VALUE);
        }
        CHECK.due("pass(1)", x.pass(1), 0);
        CHECK.due("count(0)", x.count(0), 1);
        CHECK.due("pass(60)", x.pass(60), 0);
        CHECK.due("count(0)", x.count(0), 61);
        CHECK.due("pass(max)", x.pass(Integer.MAX_VALUE), SetRepairs.BAD_VALUE);
    }

    private static void passUpToDay9999() {
        CHECK.says("NOT_POSSIBLE if the day would be more than 9999");
        SetRepairs x = Desks.lastDay();
        CHECK.due("count(0)", x.count(0), 9999);
        CHECK.due("pass(1) at 9999", x.pass(1), SetRepairs.NOT_POSSIBLE);
        CHECK.due("pass(60) at 9999", x.pass(60), SetRepairs.NOT_POSSIBLE);
        x.undo();
        CHECK.due("count(0)", x.count(0), 9960);
        CHECK.due("pass(40) at 9960", x.pass(40), SetRepairs.NOT_POSSIBLE);
        CHECK.due("pass(38) at 9960", x.pass(38), 0);
        CHECK.due("pass(2) at 9998", x.pass(2), SetRepairs.NOT_POSSIBLE);
        CHECK.due("count(0)", x.count(0), 9998);
        CHECK.due("pass(1) at 9998", x.pass(1), 0);
        CHECK.due("count(0)", x.count(0), 9999);
    }

    /** A set that is sold and collected ones leave out, orders, hours that end in the middle of sets. */
    private static SetRepairs busyDesk() {
        SetRepairs x = Desks.approved(3, 1, 4, 2, 0);
        x.lend(4);
        x.setNumber(0, 3);
        x.setNumber(3, 4);
        x.put(1, 1);
        x.put(5, 1);
        x.order(0, 1);
        x.order(2, 2);
        x.setPart(3, 300, 5);
        x.order(3, 1);
        x.order(4, 1);
        return x;
    }

    private static void passAsDaysOneByOne() {
        CHECK.says("Returns how many sets are done in them");
        for (int days = 1; days <= 12; days++) {
            SetRepairs x = busyDesk();
            SetRepairs y = busyDesk();
            int done = 0;
            for (int i = 0; i < days; i++) {
                done += y.pass(1);
            }
            CHECK.due("pass(" + days + ")", x.pass(days), done);
            CHECK.dueTrue("pass(" + days + ") is not as its days", Desks.told(x).equals(Desks.told(y)));
        }
        CHECK.due("pass(12)", busyDesk().pass(12), 5);
    }

    private static void typeAnyCharacter() {
        CHECK.says("`character`: any character");
        char[] some = {0, 10, 127, 128, 255, 256, 0xd800, 0xdfff, 0xfffe, 0xffff, '0', '\u0660'};
        SetRepairs x = new SetRepairs();
        for (int i = 0; i < some.length; i++) {
            CHECK.due("type(" + (int) some[i] + ")", x.type(some[i]), i + 1);
        }
        for (char character : some) {
            if (character != '0') {
                x.clearText();
                x.type(character);
                CHECK.due("readAnswers of " + (int) character, x.readAnswers(), -100);
            }
        }
    }

    private static void clearTextTellsTheLength() {
        CHECK.says("Returns the length that it had.");
        SetRepairs x = new SetRepairs();
        CHECK.due("clearText() of none", x.clearText(), 0);
        x.type('a');
        CHECK.due("clearText() of one", x.clearText(), 1);
        for (int i = 0; i < 61; i++) {
            x.type('a');
        }
        CHECK.due("clearText() of a full one", x.clearText(), 60);
        CHECK.due("clearText() again", x.clearText(), 0);
        CHECK.due("type behind it", x.type('a'), 1);
    }

    private static void undoTellsWhatIsLeft() {
        CHECK.says("Returns the number of states that are left; NONE if the history is empty.");
        SetRepairs x = new SetRepairs();
        CHECK.due("undo() at first", x.undo(), SetRepairs.NONE);
        for (int i = 0; i < 5; i++) {
            x.pass(1);
        }
        for (int left = 3; left >= 0; left--) {
            CHECK.due("undo()", x.undo(), left);
        }
        CHECK.due("undo() of none", x.undo(), SetRepairs.NONE);
        CHECK.due("undo() of none again", x.undo(), SetRepairs.NONE);
    }

    private static void keepInPlaceOfTheOther() {
        CHECK.says("Takes a snapshot of the state, in place of the one that was.");
        SetRepairs x = new SetRepairs();
        CHECK.due("keep()", x.keep(), 0);
        x.pass(3);
        CHECK.due("keep()", x.keep(), 3);
        x.pass(60);
        CHECK.due("restore()", x.restore(), 3);
        x.undo();
        x.undo();
        x.undo();
        CHECK.due("keep() at day 0", x.keep(), 0);
        CHECK.due("restore()", x.restore(), 0);
    }

    private static void restoreLeavesTheSnapshot() {
        CHECK.says("Restores the state of the snapshot, which stays.");
        SetRepairs x = new SetRepairs();
        x.come(1);
        x.keep();
        for (int i = 0; i < 6; i++) {
            x.estimate(0);
            x.put(1, 1);
            x.order(1, 1);
            x.pass(2);
            CHECK.due("restore()", x.restore(), 0);
            CHECK.due("set(0, 6)", x.set(0, 6), 0);
            CHECK.due("part(1, 2)", x.part(1, 2), 0);
            CHECK.due("count(10)", x.count(10), 0);
        }
    }
}
