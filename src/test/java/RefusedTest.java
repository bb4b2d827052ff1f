/** What the document says under ERRORS: the order of the checks, and that a refused call changes nothing. */
public final class RefusedTest {
    private static final Check CHECK = new Check("RefusedTest");
    private static final int MIN = Integer.MIN_VALUE;
    private static final int MAX = Integer.MAX_VALUE;

    private interface Maker {
        SetRepairs make();
    }

    private interface Call {
        int on(SetRepairs x);
    }

    public static void main(String[] args) {
        orderOfSettings();
        orderOfParts();
        orderOfSets();
        orderOfReadAnswers();
        orderOfPass();
        orderOfWhatIsTold();
        CHECK.says("A call that returns an error or NONE changes nothing.");
        wrongSettingsChangeNothing();
        wrongPartsChangeNothing();
        wrongSetsChangeNothing();
        wrongStatesChangeNothing();
        wrongTextsChangeNothing();
        wrongDaysChangeNothing();
        fullDeskChangesNothing();
        emptyDeskChangesNothing();
        wrongQuestionsChangeNothing();
        CHECK.end();
    }

    /** Set 0 estimated, 1 approved, both with a loaner, 2 done, 3 refused, 4 in; the history is full. */
    private static SetRepairs busyDesk() {
        SetRepairs x = Desks.estimated(0, 1, 2, 3);
        x.come(4);
        x.lend(1);
        x.lend(0);
        x.put(2, 2);
        x.answer(2, true);
        x.answer(3, false);
        x.answer(1, true);
        x.order(1, 1);
        x.pass(1);
        x.keep();
        x.setRate(2, 0);
        Desks.typeAll(x, "0y,4n");
        return x;
    }

    /** 20 sets, 12 orders, 99 parts 0, no loaner, a text of 60 characters. */
    private static SetRepairs fullDesk() {
        SetRepairs x = new SetRepairs();
        for (int i = 0; i < 20; i++) {
            x.come(i % 5);
        }
        for (int i = 0; i < 12; i++) {
            x.order(i % 6, 9);
        }
        for (int i = 0; i < 11; i++) {
            x.put(0, 9);
        }
        for (int i = 0; i < 60; i++) {
            x.type('7');
        }
        x.keep();
        x.setNumber(4, 0);
        return x;
    }

    private static void orderOfSettings() {
        CHECK.says("Where several errors can apply, the order of the @return line is the order of the checks.");
        SetRepairs x = busyDesk();
        CHECK.due("setRate: no rate, no number", x.setRate(4, 0x7fc00000), SetRepairs.UNKNOWN);
        CHECK.due("setRate: no rate, out of its range", x.setRate(-1, 0x80000000), SetRepairs.UNKNOWN);
        CHECK.due("setRate: -0.0f at 0.0f", x.setRate(2, 0x80000000), SetRepairs.BAD_VALUE);
        CHECK.due("setNumber: no number, out of its range", x.setNumber(5, -1), SetRepairs.UNKNOWN);
        CHECK.due("setNumber: no number, out of its range", x.setNumber(-1, MAX), SetRepairs.UNKNOWN);
        CHECK.due("setNumber: below its range and those that are lent", x.setNumber(4, -1), SetRepairs.BAD_VALUE);
        CHECK.due("setNumber: below those that are lent", x.setNumber(4, 1), SetRepairs.NOT_POSSIBLE);
        CHECK.due("setNumber: as it is and as are lent", x.setNumber(4, 2), SetRepairs.NONE);
        CHECK.due("setPart: no part, no price, no lead", x.setPart(6, 0, 0), SetRepairs.UNKNOWN);
        CHECK.due("setPart: no price, the lead as it is", x.setPart(0, 0, 2), SetRepairs.BAD_VALUE);
        CHECK.due("setPart: the price as it is, no lead", x.setPart(0, 100, 31), SetRepairs.BAD_VALUE);
    }

    private static void orderOfParts() {
        CHECK.says("the order of the @return line is the order of the checks");
        SetRepairs x = fullDesk();
        CHECK.due("order: no part, too many, full", x.order(6, 10), SetRepairs.UNKNOWN);
        CHECK.due("order: no part, full", x.order(-1, 1), SetRepairs.UNKNOWN);
        CHECK.due("order: too many, full", x.order(0, 10), SetRepairs.BAD_VALUE);
        CHECK.due("order: none, full", x.order(0, 0), SetRepairs.BAD_VALUE);
        CHECK.due("order: full", x.order(0, 1), SetRepairs.FULL);
        CHECK.due("put: no part, too many", x.put(6, 10), SetRepairs.UNKNOWN);
        CHECK.due("put: too many, full", x.put(0, 10), SetRepairs.BAD_VALUE);
        CHECK.due("put: none, full", x.put(0, 0), SetRepairs.BAD_VALUE);
        CHECK.due("put: the greatest number, full", x.put(0, MAX), SetRepairs.BAD_VALUE);
        CHECK.due("put: full", x.put(0, 1), SetRepairs.FULL);
    }

    private static void orderOfSets() {
        CHECK.says("the order of the @return line is the order of the checks");
        SetRepairs x = fullDesk();
        CHECK.due("come: no fault, full", x.come(5), SetRepairs.UNKNOWN);
        CHECK.due("come: full", x.come(4), SetRepairs.FULL);
        CHECK.due("lend: no set, none there", x.lend(20), SetRepairs.UNKNOWN);
        CHECK.due("lend: none there", x.lend(19), SetRepairs.FULL);
        x = busyDesk();
        CHECK.due("lend: one is lent already, none there", x.lend(0), SetRepairs.NOT_POSSIBLE);
        CHECK.due("lend: it is done, none there", x.lend(2), SetRepairs.NOT_POSSIBLE);
        CHECK.due("lend: it is refused, none there", x.lend(3), SetRepairs.NOT_POSSIBLE);
        CHECK.due("lend: it is in, none there", x.lend(4), SetRepairs.FULL);
        CHECK.due("lend: no set, none there", x.lend(5), SetRepairs.UNKNOWN);
    }

    private static void orderOfReadAnswers() {
        CHECK.says("-100 minus the fault of the text if it has one (which is an error); NOT_POSSIBLE if any answer");
        SetRepairs x = busyDesk();
        CHECK.due("an answer that is not possible", x.readAnswers(), SetRepairs.NOT_POSSIBLE);
        x.type(',');
        CHECK.due("the same, and a fault", x.readAnswers(), -106);
        CHECK.due("no set, and a fault", Desks.readAnswers(x, "77y,x"), -104);
    }

    private static void orderOfPass() {
        CHECK.says("Returns how many sets are done in them; BAD_VALUE; NOT_POSSIBLE if the day would be more than 9999.");
        SetRepairs x = Desks.lastDay();
        int[] wrong = {0, -1, 61, MAX, MIN};
        for (int days : wrong) {
            CHECK.due("pass(" + days + ") on the last day", x.pass(days), SetRepairs.BAD_VALUE);
        }
        CHECK.due("pass(1) on the last day", x.pass(1), SetRepairs.NOT_POSSIBLE);
        CHECK.due("pass(60) on the last day", x.pass(60), SetRepairs.NOT_POSSIBLE);
    }

    private static void orderOfWhatIsTold() {
        CHECK.says("the order of the @return line is the order of the checks");
        SetRepairs x = busyDesk();
        int[] wrong = {-1, 9, MAX, MIN};
        for (int what : wrong) {
            CHECK.due("part: no part, no such " + what, x.part(6, what), SetRepairs.UNKNOWN);
            CHECK.due("part: no such " + what, x.part(5, what), SetRepairs.BAD_VALUE);
            CHECK.due("set: no set, no such " + what, x.set(5, what), SetRepairs.UNKNOWN);
            CHECK.due("set: no such " + what, x.set(4, what), SetRepairs.BAD_VALUE);
        }
    }

    /** Looks at all that the desk tells, at each state of its history, at its text and at its snapshot. */
    private static void dueRefused(Maker maker, String name, int due, Call call) {
        CHECK.due(name, call.on(maker.make()), due);
        for (int undos = 0; undos <= 5; undos++) {
            SetRepairs asked = maker.make();
            call.on(asked);
            boolean isSame = allThatItHolds(asked, undos).equals(allThatItHolds(maker.make(), undos));
            CHECK.dueTrue(name + " changed something, seen behind " + undos + " undo()", isSame);
        }
    }

    private static String allThatItHolds(SetRepairs x, int undos) {
        StringBuilder all = new StringBuilder();
        for (int i = 0; i < undos; i++) {
            all.append(x.undo()).append(' ');
        }
        all.append(Desks.told(x)).append(' ').append(x.count(16)).append(' ');
        all.append(x.restore()).append(' ').append(Desks.told(x)).append(' ');
        return all.append(x.readAnswers()).append(' ').append(x.clearText()).toString();
    }

    private static void dueRefused(String name, int due, Call call) {
        dueRefused(RefusedTest::busyDesk, name, due, call);
    }

    private static void wrongSettingsChangeNothing() {
        int[] noRates = {-1, 4, MIN, MAX};
        for (int which : noRates) {
            dueRefused("setRate(" + which + ", ..)", SetRepairs.UNKNOWN, x -> x.setRate(which, 0x3f800000));
            int number = which == 4 ? 5 : which;
            dueRefused("setNumber(" + number + ", ..)", SetRepairs.UNKNOWN, x -> x.setNumber(number, 3));
        }
        int[] noBits = {0x7fc00000, 0x7f800000, 0xff800000, 0x80000000, 0x3f800000 - 1, 0x40400001};
        for (int bits : noBits) {
            dueRefused("setRate(0, " + bits + ")", SetRepairs.BAD_VALUE, x -> x.setRate(0, bits));
        }
        dueRefused("setRate to the same", SetRepairs.NONE, x -> x.setRate(3, Desks.bits(0.6f)));
        int[] tooGreat = {25, 20001, 61, 401, 7};
        int[] tooSmall = {0, 99, -1, 0, -1};
        int[] same = {8, 4500, 7, 90, 2};
        for (int which = 0; which < 5; which++) {
            int number = which;
            String name = "setNumber(" + which + ", ..)";
            dueRefused(name + " above", SetRepairs.BAD_VALUE, x -> x.setNumber(number, tooGreat[number]));
            dueRefused(name + " below", SetRepairs.BAD_VALUE, x -> x.setNumber(number, tooSmall[number]));
            dueRefused(name + " same", SetRepairs.NONE, x -> x.setNumber(number, same[number]));
        }
        dueRefused("setNumber(4, 1)", SetRepairs.NOT_POSSIBLE, x -> x.setNumber(4, 1));
    }

    private static void wrongPartsChangeNothing() {
        int[] noParts = {-1, 6, MIN, MAX};
        for (int part : noParts) {
            dueRefused("setPart(" + part + ", 5, 5)", SetRepairs.UNKNOWN, x -> x.setPart(part, 5, 5));
            dueRefused("order(" + part + ", 1)", SetRepairs.UNKNOWN, x -> x.order(part, 1));
            dueRefused("put(" + part + ", 1)", SetRepairs.UNKNOWN, x -> x.put(part, 1));
        }
        int[] wrong = {0, -1, MIN, MAX, 50001};
        for (int value : wrong) {
            dueRefused("setPart(1, " + value + ", 3)", SetRepairs.BAD_VALUE, x -> x.setPart(1, value, 3));
            dueRefused("setPart(1, 3, " + value + ")", SetRepairs.BAD_VALUE, x -> x.setPart(1, 3, value));
            dueRefused("order(1, " + value + ")", SetRepairs.BAD_VALUE, x -> x.order(1, value));
            dueRefused("put(1, " + value + ")", SetRepairs.BAD_VALUE, x -> x.put(1, value));
        }
        dueRefused("setPart(1, 3, 31)", SetRepairs.BAD_VALUE, x -> x.setPart(1, 3, 31));
        dueRefused("order(1, 10)", SetRepairs.BAD_VALUE, x -> x.order(1, 10));
        dueRefused("put(1, 10)", SetRepairs.BAD_VALUE, x -> x.put(1, 10));
        dueRefused("setPart to the same", SetRepairs.NONE, x -> x.setPart(1, 100, 2));
    }

    private static void wrongSetsChangeNothing() {
        int[] noSets = {-1, 5, 19, 20, MIN, MAX};
        for (int set : noSets) {
            dueRefused("come(" + set + ")", SetRepairs.UNKNOWN, x -> x.come(set));
            dueRefused("estimate(" + set + ")", SetRepairs.UNKNOWN, x -> x.estimate(set));
            dueRefused("answer(" + set + ", true)", SetRepairs.UNKNOWN, x -> x.answer(set, true));
            dueRefused("answer(" + set + ", false)", SetRepairs.UNKNOWN, x -> x.answer(set, false));
            dueRefused("lend(" + set + ")", SetRepairs.UNKNOWN, x -> x.lend(set));
            dueRefused("collect(" + set + ")", SetRepairs.UNKNOWN, x -> x.collect(set));
        }
    }

    private static void wrongStatesChangeNothing() {
        for (int state = 0; state < 8; state++) {
            int made = state;
            Maker maker = () -> Desks.inState(made);
            String end = " in the state " + state;
            if (state != 0) {
                dueRefused(maker, "estimate(0)" + end, SetRepairs.NOT_POSSIBLE, x -> x.estimate(0));
            }
            if (state != 1) {
                dueRefused(maker, "answer(0, true)" + end, SetRepairs.NOT_POSSIBLE, x -> x.answer(0, true));
                dueRefused(maker, "answer(0, false)" + end, SetRepairs.NOT_POSSIBLE, x -> x.answer(0, false));
            }
            if (state >= 4) {
                dueRefused(maker, "lend(0)" + end, SetRepairs.NOT_POSSIBLE, x -> x.lend(0));
            }
            if (state != 4 && state != 5) {
                dueRefused(maker, "collect(0)" + end, SetRepairs.NOT_POSSIBLE, x -> x.collect(0));
            }
        }
        dueRefused("lend(0), one is lent already", SetRepairs.NOT_POSSIBLE, x -> x.lend(0));
        dueRefused("lend(4), none is there", SetRepairs.FULL, x -> x.lend(4));
    }

    private static void wrongTextsChangeNothing() {
        dueRefused("readAnswers() of 0y,4n", SetRepairs.NOT_POSSIBLE, SetRepairs::readAnswers);
        String[] texts = {"", "0", "0y,", "0y,1", "0y,01n", "0y!", "x"};
        int[] faults = {0, 1, 3, 4, 4, 2, 0};
        for (int i = 0; i < texts.length; i++) {
            String text = texts[i];
            dueRefused(() -> withText(text), "readAnswers() of " + text, -100 - faults[i], SetRepairs::readAnswers);
        }
        String[] notPossible = {"0y,0y", "0n,1y", "0y,5n", "0y,99n", "4y", "3n,0y", "0y,2y"};
        for (String text : notPossible) {
            dueRefused(() -> withText(text), "readAnswers() of " + text, SetRepairs.NOT_POSSIBLE, SetRepairs::readAnswers);
        }
    }

    private static SetRepairs withText(String text) {
        SetRepairs x = busyDesk();
        x.clearText();
        Desks.typeAll(x, text);
        return x;
    }

    private static void wrongDaysChangeNothing() {
        int[] wrong = {0, -1, 61, MIN, MAX};
        for (int days : wrong) {
            dueRefused("pass(" + days + ")", SetRepairs.BAD_VALUE, x -> x.pass(days));
        }
        dueRefused(Desks::lastDay, "pass(1) on the last day", SetRepairs.NOT_POSSIBLE, x -> x.pass(1));
        dueRefused(Desks::lastDay, "pass(60) on the last day", SetRepairs.NOT_POSSIBLE, x -> x.pass(60));
    }

    private static void fullDeskChangesNothing() {
        Maker full = RefusedTest::fullDesk;
        dueRefused(full, "order(1, 1)", SetRepairs.FULL, x -> x.order(1, 1));
        dueRefused(full, "put(0, 1)", SetRepairs.FULL, x -> x.put(0, 1));
        dueRefused(full, "come(0)", SetRepairs.FULL, x -> x.come(0));
        dueRefused(full, "lend(0)", SetRepairs.FULL, x -> x.lend(0));
        dueRefused(full, "type('y')", SetRepairs.FULL, x -> x.type('y'));
    }

    private static void emptyDeskChangesNothing() {
        dueRefused(SetRepairs::new, "undo()", SetRepairs.NONE, SetRepairs::undo);
        dueRefused(SetRepairs::new, "restore()", SetRepairs.NONE, SetRepairs::restore);
        dueRefused(() -> Desks.inState(5), "restore()", SetRepairs.NONE, SetRepairs::restore);
    }

    private static void wrongQuestionsChangeNothing() {
        int[] none = {-1, 20, MIN, MAX};
        for (int wrong : none) {
            dueRefused("number(" + wrong + ")", SetRepairs.UNKNOWN, x -> x.number(wrong));
            dueRefused("part(" + wrong + ", 0)", SetRepairs.UNKNOWN, x -> x.part(wrong, 0));
            dueRefused("part(0, " + wrong + ")", SetRepairs.BAD_VALUE, x -> x.part(0, wrong));
            dueRefused("costOf(" + wrong + ")", SetRepairs.UNKNOWN, x -> x.costOf(wrong));
            dueRefused("set(" + wrong + ", 0)", SetRepairs.UNKNOWN, x -> x.set(wrong, 0));
            dueRefused("set(0, " + wrong + ")", SetRepairs.BAD_VALUE, x -> x.set(0, wrong));
            dueRefused("waitsFor(" + wrong + ")", SetRepairs.UNKNOWN, x -> x.waitsFor(wrong));
            dueRefused("lacks(" + wrong + ")", SetRepairs.UNKNOWN, x -> x.lacks(wrong));
            dueRefused("doneIn(" + wrong + ")", SetRepairs.UNKNOWN, x -> x.doneIn(wrong));
            dueRefused("count(" + wrong + ")", SetRepairs.BAD_VALUE, x -> x.count(wrong));
        }
        dueRefused("lacks(0)", SetRepairs.NONE, x -> x.lacks(0));
        dueRefused("doneIn(0)", SetRepairs.NONE, x -> x.doneIn(0));
        dueRefused("set(0, 7)", SetRepairs.NONE, x -> x.set(0, 7));
        dueRefused("set(0, 8)", SetRepairs.NONE, x -> x.set(0, 8));
        dueRefused(() -> Desks.inState(6), "waitsFor(0)", SetRepairs.NONE, x -> x.waitsFor(0));
    }
}
