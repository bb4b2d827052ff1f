/** The edges that the document names under TEXTS and HISTORY, sentence by sentence. */
public final class EdgesOfTextAndHistoryTest {
    private static final Check CHECK = new Check("EdgesOfTextAndHistoryTest");

    public static void main(String[] args) {
        textHolds60();
        textIsEmptyAtFirst();
        answersAreOneOrMore();
        answersAreParted();
        numbersHaveOneOrTwoDigits();
        numbersHaveNoZeroInFront();
        answersEndWithTheirSign();
        faultIsTheFirst();
        faultIsTheLength();
        historyHoldsFour();
        historyDropsTheOldest();
        undoGivesBackTheLatest();
        actsAreRecorded();
        otherCallsAreNotRecorded();
        snapshotIsEmptyAtFirst();
        thereIsOneSnapshot();
        restoreGivesBackEverythingElse();
        undoGivesBackEverythingElse();
        restoreGivesBackAnotherCourse();
        stateIsWithoutTheText();
        stateIsWithoutTheHistory();
        stateIsWithoutTheSnapshot();
        CHECK.end();
    }

    private static void textHolds60() {
        CHECK.says("There is a text of at most 60 characters");
        SetRepairs x = new SetRepairs();
        for (int length = 1; length <= 60; length++) {
            CHECK.due("type", x.type('1'), length);
        }
        CHECK.due("type at 60", x.type('1'), SetRepairs.FULL);
        CHECK.due("count(17)", x.count(17), 60);
    }

    private static void textIsEmptyAtFirst() {
        CHECK.says("empty at first. A text of answers");
        CHECK.due("count(17)", new SetRepairs().count(17), 0);
        CHECK.due("clearText()", new SetRepairs().clearText(), 0);
        CHECK.due("readAnswers()", new SetRepairs().readAnswers(), -100);
        CHECK.due("type('0')", new SetRepairs().type('0'), 1);
    }

    private static void dueFault(String text, int fault) {
        CHECK.due("readAnswers of '" + text + "'", Desks.readAnswers(Desks.estimated(0, 0), text), -100 - fault);
    }

    /** A text without a fault about a set that no desk has. */
    private static void dueNoFault(String text) {
        CHECK.due("readAnswers of '" + text + "'", Desks.readAnswers(new SetRepairs(), text), SetRepairs.NOT_POSSIBLE);
    }

    private static void answersAreOneOrMore() {
        CHECK.says("A text of answers is one or more answers");
        dueFault("", 0);
        CHECK.due("one", Desks.readAnswers(Desks.estimated(0, 0), "0y"), 0);
        CHECK.due("two", Desks.readAnswers(Desks.estimated(0, 0), "0y,1n"), 0);
        SetRepairs x = new SetRepairs();
        StringBuilder text = new StringBuilder();
        for (int set = 0; set < 19; set++) {
            x.estimate(x.come(0));
            text.append(set == 0 ? "" : ",").append(set).append('n');
        }
        text.setLength(57);
        CHECK.due("as many as a text holds", Desks.readAnswers(x, text.toString()), 0);
        CHECK.due("count(7)", x.count(7), 17);
    }

    private static void answersAreParted() {
        CHECK.says("with \",\" between two");
        dueFault(",", 0);
        dueFault(",0y", 0);
        dueFault("0y,", 3);
        dueFault("0y,,1y", 3);
        dueFault("0y1y", 2);
        dueFault("0y 1y", 2);
        dueFault("0y-1y", 2);
        dueFault("0,1y", 1);
    }

    private static void numbersHaveOneOrTwoDigits() {
        CHECK.says("the number of a set (one or two digits");
        dueFault("y", 0);
        dueFault("100y", 2);
        dueFault("0y,123n", 5);
        dueFault("/y", 0);
        dueFault(":y", 0);
        dueNoFault("1y");
        dueNoFault("9n");
        dueNoFault("10y");
        dueNoFault("19n");
        dueNoFault("99y");
        SetRepairs x = Desks.estimated(0, 0, 0, 0, 0, 0, 0, 0, 0, 0, 0, 0, 0, 0, 0, 0, 0, 0, 0, 0);
        CHECK.due("readAnswers", Desks.readAnswers(x, "9n,10n,19n"), 0);
        int[] refused = {9, 10, 19};
        for (int set : refused) {
            CHECK.due("set(" + set + ", 6)", x.set(set, 6), 5);
        }
        CHECK.due("count(3)", x.count(3), 17);
    }

    private static void numbersHaveNoZeroInFront() {
        CHECK.says("without a zero in front unless it is the single digit 0");
        dueNoFault("0y");
        dueNoFault("20n");
        dueFault("00y", 1);
        dueFault("01y", 1);
        dueFault("09n", 1);
        dueFault("0y,01n", 4);
    }

    private static void answersEndWithTheirSign() {
        CHECK.says("and \"y\" (approved) or \"n\" (refused)");
        SetRepairs x = Desks.estimated(0, 0);
        x.put(0, 1);
        CHECK.due("readAnswers", Desks.readAnswers(x, "0y,1n"), 1);
        CHECK.due("set(0, 6)", x.set(0, 6), 3);
        CHECK.due("set(1, 6)", x.set(1, 6), 5);
        String[] others = {"0x", "0z", "0m", "0o", "0Y", "0N", "0j", "0,", "0 "};
        for (String text : others) {
            dueFault(text, 1);
        }
    }

    private static void faultIsTheFirst() {
        CHECK.says("the index, from 0, of the first character that is not allowed at its place");
        dueFault("x", 0);
        dueFault("xx", 0);
        dueFault("0y,x", 3);
        dueFault("0yx,01", 2);
        StringBuilder text = new StringBuilder("0y");
        while (text.length() < 59) {
            text.append(",1y");
        }
        text.append("y");
        dueFault(text.toString(), 59);
    }

    private static void faultIsTheLength() {
        CHECK.says("or the length of the text if it ends too early (the empty text does)");
        dueFault("", 0);
        dueFault("0", 1);
        dueFault("1", 1);
        dueFault("10", 2);
        dueFault("0y,", 3);
        dueFault("0y,1", 4);
        dueFault("0y,10", 5);
        StringBuilder text = new StringBuilder("0y");
        while (text.length() < 59) {
            text.append(",1y");
        }
        text.append(",");
        dueFault(text.toString(), 60);
    }

    private static void historyHoldsFour() {
        CHECK.says("A history of at most 4 states is kept");
        SetRepairs x = new SetRepairs();
        for (int acts = 1; acts <= 9; acts++) {
            x.pass(1);
            CHECK.due("count(16) behind " + acts, x.count(16), Math.min(acts, 4));
        }
    }

    /** Several rounds, so that the rows of the history are used again. */
    private static void historyDropsTheOldest() {
        CHECK.says("when one more is recorded, the oldest one is dropped");
        SetRepairs x = new SetRepairs();
        for (int round = 0; round < 7; round++) {
            int first = x.count(0);
            for (int i = 0; i < 5 + round; i++) {
                x.pass(1);
            }
            int last = first + 5 + round;
            for (int left = 3; left >= 0; left--) {
                CHECK.due("undo()", x.undo(), left);
                last--;
                CHECK.due("count(0)", x.count(0), last);
            }
            CHECK.due("undo() of what was dropped", x.undo(), SetRepairs.NONE);
            CHECK.due("count(0)", x.count(0), last);
        }
    }

    private static void undoGivesBackTheLatest() {
        CHECK.says("undo() removes and restores the latest one");
        SetRepairs x = new SetRepairs();
        CHECK.due("undo() at first", x.undo(), SetRepairs.NONE);
        x.pass(1);
        x.pass(2);
        x.undo();
        CHECK.due("count(0)", x.count(0), 1);
        x.pass(4);
        CHECK.due("undo()", x.undo(), 1);
        CHECK.due("count(0)", x.count(0), 1);
        CHECK.due("undo()", x.undo(), 0);
        CHECK.due("count(0)", x.count(0), 0);
        CHECK.due("undo()", x.undo(), SetRepairs.NONE);
        CHECK.due("count(0)", x.count(0), 0);
    }

    /** Sets that are in, estimated and refused, a text of an answer, and a snapshot. */
    private static SetRepairs deskForActs() {
        SetRepairs x = new SetRepairs();
        x.come(0);
        x.estimate(x.come(1));
        x.estimate(x.come(2));
        x.answer(2, false);
        Desks.typeAll(x, "1y");
        x.keep();
        while (x.count(16) > 0) {
            x.undo();
        }
        x.restore();
        return x;
    }

    private static void actsAreRecorded() {
        CHECK.says("Each call of a method that is described as an act, and returns no error and not NONE, records");
        String[] acts = {
            "setRate", "setNumber", "setPart", "order", "put", "come", "estimate", "answer", "readAnswers", "lend",
            "collect", "pass", "restore",
        };
        for (String act : acts) {
            SetRepairs x = deskForActs();
            CHECK.dueTrue(act + " is not possible here", doAct(x, act) >= 0);
            CHECK.due("count(16) behind " + act, x.count(16), 2);
            CHECK.due("undo() behind " + act, x.undo(), 1);
            CHECK.dueTrue("undo() does not take back " + act, Desks.told(x).equals(Desks.told(deskForActs())));
        }
    }

    private static int doAct(SetRepairs x, String act) {
        switch (act) {
            case "setRate": return x.setRate(3, 0);
            case "setNumber": return x.setNumber(2, 0);
            case "setPart": return x.setPart(5, 1, 1);
            case "order": return x.order(5, 9);
            case "put": return x.put(5, 9);
            case "come": return x.come(4);
            case "estimate": return x.estimate(0);
            case "answer": return x.answer(1, false);
            case "readAnswers": return x.readAnswers();
            case "lend": return x.lend(0);
            case "collect": return x.collect(2);
            case "pass": return x.pass(60);
            default: return x.restore();
        }
    }

    private static void otherCallsAreNotRecorded() {
        CHECK.says("records the state that was before it");
        SetRepairs x = deskForActs();
        x.type('x');
        x.clearText();
        x.keep();
        Desks.told(x);
        x.lacks(0);
        x.costOf(0);
        CHECK.due("count(16)", x.count(16), 1);
        x.pass(1);
        CHECK.due("undo()", x.undo(), 1);
        CHECK.due("count(16) behind undo", x.count(16), 1);
    }

    private static void snapshotIsEmptyAtFirst() {
        CHECK.says("There is one snapshot, empty at first.");
        SetRepairs x = new SetRepairs();
        CHECK.due("restore() at first", x.restore(), SetRepairs.NONE);
        x.pass(1);
        CHECK.due("restore() behind an act", x.restore(), SetRepairs.NONE);
        CHECK.due("count(0)", x.count(0), 1);
        x.keep();
        CHECK.due("restore() behind keep", x.restore(), 1);
    }

    private static void thereIsOneSnapshot() {
        CHECK.says("There is one snapshot");
        SetRepairs x = new SetRepairs();
        x.keep();
        x.pass(1);
        x.keep();
        x.pass(1);
        for (int i = 0; i < 3; i++) {
            CHECK.due("restore() of the second one", x.restore(), 1);
        }
    }

    /** All that can be other is other behind this: settings, parts, orders, sets and sums. */
    private static void changeEverything(SetRepairs x, int by) {
        for (int which = 0; which < 4; which++) {
            x.setRate(which, Desks.bits(1.0f) - (which == 3 ? by : -by));
        }
        int[] numbers = {3, 5000, 0, 4, 5};
        for (int which = 0; which < 5; which++) {
            x.setNumber(which, numbers[which] + by);
        }
        for (int part = 0; part < 6; part++) {
            x.setPart(part, 50 + 7 * part + by, 3 + by);
            x.put(part, 2 + by);
            x.order(part, 1 + by);
        }
        int first = x.count(1);
        for (int set = first; set < first + 2; set++) {
            x.estimate(x.come(2 * by));
            x.lend(set);
            x.answer(set, true);
        }
        x.pass(3);
        x.collect(first);
        x.pass(3 + by);
    }

    private static void restoreGivesBackEverythingElse() {
        CHECK.says("A state is everything but the text");
        SetRepairs x = new SetRepairs();
        changeEverything(x, 0);
        x.keep();
        String kept = Desks.told(x);
        changeEverything(x, 1);
        CHECK.due("restore()", x.restore(), 6);
        CHECK.dueTrue("restore() leaves something as it was", kept.equals(Desks.told(x)));
    }

    private static void undoGivesBackEverythingElse() {
        CHECK.says("A state is everything but the text");
        SetRepairs x = new SetRepairs();
        changeEverything(x, 0);
        x.keep();
        changeEverything(x, 1);
        String changed = Desks.told(x);
        x.restore();
        CHECK.due("undo()", x.undo(), 3);
        CHECK.dueTrue("undo() leaves something as it was", changed.equals(Desks.told(x)));
    }

    /** What was kept and what is there then are of the same sets, but of other days, bills and fees. */
    private static void restoreGivesBackAnotherCourse() {
        CHECK.says("A state is everything but the text");
        SetRepairs x = Desks.approved(0, 0, 1);
        x.setNumber(2, 0);
        x.put(0, 2);
        x.come(3);
        x.pass(2);
        x.collect(0);
        x.lend(3);
        x.keep();
        String kept = Desks.told(x);
        for (int i = 0; i < 4; i++) {
            x.undo();
        }
        x.setPart(0, 50, 3);
        x.pass(3);
        x.come(4);
        x.collect(0);
        x.collect(1);
        x.restore();
        CHECK.dueTrue("restore() leaves something as it was", kept.equals(Desks.told(x)));
    }

    private static void stateIsWithoutTheText() {
        CHECK.says("A state is everything but the text, the history and the snapshot.");
        SetRepairs x = new SetRepairs();
        x.keep();
        x.pass(1);
        Desks.typeAll(x, "0y!");
        x.undo();
        CHECK.due("readAnswers() behind undo", x.readAnswers(), -102);
        x.clearText();
        x.restore();
        CHECK.due("count(17) behind restore", x.count(17), 0);
        x.type('5');
        x.undo();
        CHECK.due("readAnswers() behind undo", x.readAnswers(), -101);
    }

    private static void stateIsWithoutTheHistory() {
        CHECK.says("A state is everything but the text, the history");
        SetRepairs x = new SetRepairs();
        x.pass(1);
        x.keep();
        x.pass(2);
        x.pass(4);
        CHECK.due("restore()", x.restore(), 1);
        CHECK.due("count(16) behind restore", x.count(16), 4);
        int[] days = {7, 3, 1, 0};
        for (int i = 0; i < days.length; i++) {
            CHECK.due("undo()", x.undo(), 3 - i);
            CHECK.due("count(0)", x.count(0), days[i]);
        }
    }

    private static void stateIsWithoutTheSnapshot() {
        CHECK.says("the history and the snapshot");
        SetRepairs x = new SetRepairs();
        x.pass(1);
        x.keep();
        x.undo();
        CHECK.due("restore() of what was kept ahead of undo", x.restore(), 1);
        x.pass(1);
        x.keep();
        x.undo();
        x.undo();
        CHECK.due("count(0)", x.count(0), 0);
        CHECK.due("restore() of the later one", x.restore(), 2);
    }
}
