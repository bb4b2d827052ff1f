/** Promises 7 to 9, 11 to 13 and 23: come, estimate, answer, lend, collect, pass, set. */
public final class SetsTest {
    private static final Check CHECK = new Check("SetsTest");

    public static void main(String[] args) {
        promise7Numbers();
        promise7Room();
        promise8Estimates();
        promise9Answers();
        promise9Reserves();
        promise11Lends();
        promise11States();
        promise12Pays();
        promise12Refused();
        promise12Loaner();
        promise13Wrong();
        promise13Hours();
        promise13LoanersFirst();
        promise13HoursGoOn();
        promise13DayOrder();
        promise13Bills();
        promise13Sales();
        promise13RefusedSales();
        promise23Wrong();
        promise23Told();
        promise23Ready();
        promise23Fee();
        CHECK.end();
    }

    private static void promise7Numbers() {
        CHECK.promise("promise 7");
        SetRepairs x = new SetRepairs();
        CHECK.due("come(5)", x.come(5), SetRepairs.UNKNOWN);
        CHECK.due("come(-1)", x.come(-1), SetRepairs.UNKNOWN);
        CHECK.due("come(max)", x.come(Integer.MAX_VALUE), SetRepairs.UNKNOWN);
        CHECK.due("count(16)", x.count(16), 0);
        CHECK.due("come(4)", x.come(4), 0);
        x.pass(3);
        CHECK.due("come(0)", x.come(0), 1);
        CHECK.due("count(1)", x.count(1), 2);
        CHECK.due("count(16)", x.count(16), 3);
        int[] due = {0, 3, 0, 0, 0, 0, 0, SetRepairs.NONE, SetRepairs.NONE};
        for (int what = 0; what < due.length; what++) {
            CHECK.due("set(1, " + what + ")", x.set(1, what), due[what]);
        }
        CHECK.due("set(0, 0)", x.set(0, 0), 4);
        CHECK.due("set(0, 1)", x.set(0, 1), 0);
        x.undo();
        CHECK.due("set(1, 0) after undo", x.set(1, 0), SetRepairs.UNKNOWN);
    }

    private static void promise7Room() {
        CHECK.promise("promise 7");
        SetRepairs x = new SetRepairs();
        for (int i = 0; i < 20; i++) {
            CHECK.due("come", x.come(i % 5), i);
        }
        CHECK.due("come(0) at 20", x.come(0), SetRepairs.FULL);
        CHECK.due("come(5) at 20", x.come(5), SetRepairs.UNKNOWN);
        CHECK.due("undo()", x.undo(), 3);
        CHECK.due("count(1) after undo", x.count(1), 19);
        CHECK.due("come(4) again", x.come(4), 19);
        x.estimate(3);
        x.answer(3, false);
        x.collect(3);
        CHECK.due("come(0) with one gone", x.come(0), SetRepairs.FULL);
        CHECK.due("count(1)", x.count(1), 20);
        for (int i = 0; i < 20; i++) {
            CHECK.due("set(.., 0)", x.set(i, 0), i % 5);
        }
    }

    private static void promise8Estimates() {
        CHECK.promise("promise 8");
        SetRepairs x = new SetRepairs();
        CHECK.due("estimate(0)", x.estimate(0), SetRepairs.UNKNOWN);
        x.come(3);
        CHECK.due("estimate(-1)", x.estimate(-1), SetRepairs.UNKNOWN);
        CHECK.due("estimate(1)", x.estimate(1), SetRepairs.UNKNOWN);
        x.setPart(3, 1001, 2);
        x.setPart(4, 502, 2);
        CHECK.due("count(16)", x.count(16), 3);
        CHECK.due("estimate(0)", x.estimate(0), 24604);
        CHECK.due("count(16)", x.count(16), 4);
        CHECK.due("set(0, 2)", x.set(0, 2), 24604);
        CHECK.due("set(0, 6)", x.set(0, 6), 1);
        x.setPart(3, 1, 2);
        CHECK.due("set(0, 2) at other prices", x.set(0, 2), 24604);
        CHECK.due("estimate(0) again", x.estimate(0), SetRepairs.NOT_POSSIBLE);
        x.answer(0, true);
        CHECK.due("estimate(0) approved", x.estimate(0), SetRepairs.NOT_POSSIBLE);
        x = Desks.oneDone();
        CHECK.due("estimate(0) done", x.estimate(0), SetRepairs.NOT_POSSIBLE);
        x.collect(0);
        CHECK.due("estimate(0) collected", x.estimate(0), SetRepairs.NOT_POSSIBLE);
        CHECK.due("set(0, 2)", x.set(0, 2), 9140);
    }

    private static void promise9Answers() {
        CHECK.promise("promise 9");
        SetRepairs x = new SetRepairs();
        CHECK.due("answer(0, true)", x.answer(0, true), SetRepairs.UNKNOWN);
        x.come(0);
        x.come(1);
        CHECK.due("answer(-1, true)", x.answer(-1, true), SetRepairs.UNKNOWN);
        CHECK.due("answer(2, false)", x.answer(2, false), SetRepairs.UNKNOWN);
        CHECK.due("answer(0, true) when in", x.answer(0, true), SetRepairs.NOT_POSSIBLE);
        CHECK.due("answer(0, false) when in", x.answer(0, false), SetRepairs.NOT_POSSIBLE);
        x.estimate(0);
        x.estimate(1);
        x.pass(2);
        x.clearText();
        CHECK.due("answer(0, true)", x.answer(0, true), 2);
        CHECK.due("answer(0, true) again", x.answer(0, true), SetRepairs.NOT_POSSIBLE);
        CHECK.due("answer(0, false) again", x.answer(0, false), SetRepairs.NOT_POSSIBLE);
        CHECK.due("answer(1, false)", x.answer(1, false), 5);
        CHECK.due("answer(1, true) again", x.answer(1, true), SetRepairs.NOT_POSSIBLE);
        CHECK.due("set(0, 7)", x.set(0, 7), SetRepairs.NONE);
        CHECK.due("set(1, 7)", x.set(1, 7), 2);
        CHECK.due("set(1, 4)", x.set(1, 4), 0);
        CHECK.due("undo()", x.undo(), 3);
        CHECK.due("set(1, 6) after undo", x.set(1, 6), 1);
        CHECK.due("set(1, 7) after undo", x.set(1, 7), SetRepairs.NONE);
    }

    private static void promise9Reserves() {
        CHECK.promise("promise 9");
        SetRepairs x = Desks.estimated(2, 2, 3);
        x.put(2, 3);
        x.put(3, 1);
        CHECK.due("answer(0, true)", x.answer(0, true), 3);
        CHECK.due("part(2, 3)", x.part(2, 3), 2);
        CHECK.due("part(2, 2)", x.part(2, 2), 3);
        CHECK.due("answer(1, true) with one of two", x.answer(1, true), 2);
        CHECK.due("answer(2, true) with one of two", x.answer(2, true), 2);
        CHECK.due("part(2, 3)", x.part(2, 3), 2);
        CHECK.due("part(3, 3)", x.part(3, 3), 0);
        x.put(4, 1);
        CHECK.due("set(2, 6)", x.set(2, 6), 3);
        CHECK.due("answer(2, true) in work", x.answer(2, true), SetRepairs.NOT_POSSIBLE);
    }

    private static void promise11Lends() {
        CHECK.promise("promise 11");
        SetRepairs x = new SetRepairs();
        CHECK.due("lend(0)", x.lend(0), SetRepairs.UNKNOWN);
        x.come(0);
        x.come(1);
        x.come(2);
        CHECK.due("lend(-1)", x.lend(-1), SetRepairs.UNKNOWN);
        CHECK.due("lend(3)", x.lend(3), SetRepairs.UNKNOWN);
        CHECK.due("lend(1)", x.lend(1), 1);
        CHECK.due("set(1, 5)", x.set(1, 5), 1);
        CHECK.due("set(0, 5)", x.set(0, 5), 0);
        CHECK.due("lend(1) again", x.lend(1), SetRepairs.NOT_POSSIBLE);
        CHECK.due("count(11)", x.count(11), 1);
        CHECK.due("lend(0)", x.lend(0), 0);
        CHECK.due("lend(2) with none there", x.lend(2), SetRepairs.FULL);
        CHECK.due("lend(0) with none there", x.lend(0), SetRepairs.NOT_POSSIBLE);
        CHECK.due("lend(3) with none there", x.lend(3), SetRepairs.UNKNOWN);
        x.undo();
        CHECK.due("count(11) after undo", x.count(11), 1);
        CHECK.due("lend(2)", x.lend(2), 0);
        x.setNumber(4, 6);
        CHECK.due("count(11)", x.count(11), 4);
        x = new SetRepairs();
        x.setNumber(4, 0);
        x.come(0);
        CHECK.due("lend(0) without loaners", x.lend(0), SetRepairs.FULL);
    }

    private static void promise11States() {
        CHECK.promise("promise 11");
        SetRepairs x = Desks.estimated(0, 0, 1, 2, 4);
        x.setNumber(4, 6);
        x.come(3);
        CHECK.due("lend(5) in", x.lend(5), 5);
        CHECK.due("lend(0) estimated", x.lend(0), 4);
        x.answer(2, true);
        CHECK.due("lend(2) approved", x.lend(2), 3);
        x.put(2, 2);
        x.answer(3, true);
        CHECK.due("lend(3) in work", x.lend(3), 2);
        x.answer(1, false);
        CHECK.due("lend(1) refused", x.lend(1), SetRepairs.NOT_POSSIBLE);
        x.put(5, 1);
        x.answer(4, true);
        x.pass(1);
        CHECK.due("lend(4) done", x.lend(4), SetRepairs.NOT_POSSIBLE);
        x.collect(4);
        CHECK.due("lend(4) collected", x.lend(4), SetRepairs.NOT_POSSIBLE);
        x.setNumber(3, 1);
        x.pass(1);
        CHECK.due("set(1, 6)", x.set(1, 6), 7);
        CHECK.due("lend(1) sold", x.lend(1), SetRepairs.NOT_POSSIBLE);
        x.setNumber(4, 3);
        CHECK.due("lend(1) sold, none there", x.lend(1), SetRepairs.NOT_POSSIBLE);
    }

    private static void promise12Pays() {
        CHECK.promise("promise 12");
        SetRepairs x = Desks.estimated(0);
        CHECK.due("collect(1)", x.collect(1), SetRepairs.UNKNOWN);
        CHECK.due("collect(-1)", x.collect(-1), SetRepairs.UNKNOWN);
        CHECK.due("collect(0) estimated", x.collect(0), SetRepairs.NOT_POSSIBLE);
        x.answer(0, true);
        CHECK.due("collect(0) approved", x.collect(0), SetRepairs.NOT_POSSIBLE);
        x.put(0, 1);
        CHECK.due("collect(0) in work", x.collect(0), SetRepairs.NOT_POSSIBLE);
        x.pass(1);
        x.pass(7);
        x.keep();
        CHECK.due("collect(0) in the grace", x.collect(0), 9140);
        CHECK.due("count(12)", x.count(12), 9140);
        CHECK.due("count(13)", x.count(13), 0);
        CHECK.due("collect(0) again", x.collect(0), SetRepairs.NOT_POSSIBLE);
        CHECK.due("set(0, 6)", x.set(0, 6), 6);
        CHECK.due("set(0, 4)", x.set(0, 4), 9140);
        x.restore();
        CHECK.due("count(12) before", x.count(12), 0);
        x.pass(3);
        CHECK.due("collect(0) 3 days late", x.collect(0), 9140 + 76);
        CHECK.due("count(12)", x.count(12), 9140);
        CHECK.due("count(13)", x.count(13), 76);
        CHECK.due("set(0, 7)", x.set(0, 7), 1);
        CHECK.due("set(0, 8)", x.set(0, 8), SetRepairs.NONE);
        x = new SetRepairs();
        x.come(1);
        CHECK.due("collect(0) in", x.collect(0), SetRepairs.NOT_POSSIBLE);
    }

    private static void promise12Refused() {
        CHECK.promise("promise 12");
        SetRepairs x = Desks.estimated(4, 1);
        x.answer(0, false);
        CHECK.due("collect(0) at once", x.collect(0), 0);
        CHECK.due("set(0, 6)", x.set(0, 6), 6);
        CHECK.due("count(16)", x.count(16), 4);
        x.pass(5);
        x.answer(1, false);
        x.pass(9);
        CHECK.due("collect(1) 2 days late", x.collect(1), 51);
        CHECK.due("count(12)", x.count(12), 0);
        CHECK.due("count(13)", x.count(13), 51);
    }

    private static void promise12Loaner() {
        CHECK.promise("promise 12");
        SetRepairs x = Desks.approved(0);
        x.lend(0);
        x.put(0, 1);
        x.pass(1);
        CHECK.due("set(0, 5) done", x.set(0, 5), 1);
        CHECK.due("count(11) done", x.count(11), 1);
        x.collect(0);
        CHECK.due("set(0, 5) collected", x.set(0, 5), 0);
        CHECK.due("count(11) collected", x.count(11), 2);
        x.undo();
        CHECK.due("count(11) after undo", x.count(11), 1);
        x = Desks.estimated(1);
        x.lend(0);
        x.answer(0, false);
        CHECK.due("count(11) refused", x.count(11), 1);
        x.collect(0);
        CHECK.due("count(11) collected", x.count(11), 2);
    }

    private static void promise13Wrong() {
        CHECK.promise("promise 13");
        SetRepairs x = new SetRepairs();
        int[] wrong = {0, 61, -1, Integer.MIN_VALUE, Integer.MAX_VALUE};
        for (int days : wrong) {
            CHECK.due("pass(" + days + ")", x.pass(days), SetRepairs.BAD_VALUE);
        }
        CHECK.due("count(16)", x.count(16), 0);
        for (int i = 0; i < 166; i++) {
            CHECK.due("pass(60)", x.pass(60), 0);
        }
        CHECK.due("count(0)", x.count(0), 9960);
        CHECK.due("pass(60)", x.pass(60), SetRepairs.NOT_POSSIBLE);
        CHECK.due("pass(40)", x.pass(40), SetRepairs.NOT_POSSIBLE);
        CHECK.due("pass(61)", x.pass(61), SetRepairs.BAD_VALUE);
        CHECK.due("pass(39)", x.pass(39), 0);
        CHECK.due("count(0)", x.count(0), 9999);
        CHECK.due("pass(1)", x.pass(1), SetRepairs.NOT_POSSIBLE);
        CHECK.due("order(0, 1)", x.order(0, 1), 10001);
        x.undo();
        x.undo();
        CHECK.due("count(0) after undo", x.count(0), 9960);
    }

    private static void promise13Hours() {
        CHECK.promise("promise 13");
        int[] hours = {2, 3, 1, 5, 4};
        int[] parts = {0, 1, 2, 3, 5};
        for (int fault = 0; fault < 5; fault++) {
            SetRepairs x = Desks.approved(fault);
            x.setNumber(0, 1);
            x.put(parts[fault], 2);
            x.put(4, 2);
            for (int day = 1; day < hours[fault]; day++) {
                CHECK.due("pass(1), fault " + fault, x.pass(1), 0);
                CHECK.due("set(0, 3)", x.set(0, 3), day);
                CHECK.due("set(0, 6)", x.set(0, 6), 3);
            }
            CHECK.due("pass(1), fault " + fault, x.pass(1), 1);
            CHECK.due("set(0, 3)", x.set(0, 3), hours[fault]);
            CHECK.due("set(0, 6)", x.set(0, 6), 4);
            CHECK.due("set(0, 7)", x.set(0, 7), hours[fault]);
            CHECK.due("stock", x.part(parts[fault], 2), fault == 2 ? 0 : 1);
            CHECK.due("stock of 4", x.part(4, 2), fault == 3 ? 1 : 2);
            CHECK.due("reserved", x.part(parts[fault], 3), 0);
            CHECK.due("reserved of 4", x.part(4, 3), 0);
        }
    }

    private static void promise13LoanersFirst() {
        CHECK.promise("promise 13");
        SetRepairs x = Desks.approved(1, 1, 4, 4);
        x.put(1, 2);
        x.put(5, 2);
        x.lend(3);
        x.setNumber(0, 6);
        CHECK.due("pass(1)", x.pass(1), 1);
        int[] worked = {2, 0, 0, 4};
        int[] states = {3, 3, 3, 4};
        for (int set = 0; set < 4; set++) {
            CHECK.due("set(" + set + ", 3)", x.set(set, 3), worked[set]);
            CHECK.due("set(" + set + ", 6)", x.set(set, 6), states[set]);
        }
        x.lend(2);
        CHECK.due("pass(1)", x.pass(1), 2);
        CHECK.due("set(2, 6)", x.set(2, 6), 4);
        CHECK.due("set(0, 6)", x.set(0, 6), 4);
        CHECK.due("set(1, 3)", x.set(1, 3), 1);
        CHECK.due("pass(1)", x.pass(1), 1);
    }

    private static void promise13HoursGoOn() {
        CHECK.promise("promise 13");
        SetRepairs x = Desks.approved(0, 1, 2, 4);
        x.put(0, 1);
        x.put(1, 1);
        x.put(2, 2);
        x.put(5, 1);
        CHECK.due("pass(1) with 8 hours", x.pass(1), 3);
        CHECK.due("set(3, 3)", x.set(3, 3), 2);
        CHECK.due("pass(1)", x.pass(1), 1);
        CHECK.due("set(3, 7)", x.set(3, 7), 2);
        x = Desks.approved(0, 1, 2, 4);
        x.put(0, 1);
        x.put(1, 1);
        x.put(2, 2);
        x.put(5, 1);
        CHECK.due("pass(60)", x.pass(60), 4);
        CHECK.due("set(3, 7)", x.set(3, 7), 2);
        CHECK.due("set(2, 7)", x.set(2, 7), 1);
    }

    /** The parts of an order that comes on a day are worked on already on this day. */
    private static void promise13DayOrder() {
        CHECK.promise("promise 13");
        SetRepairs x = Desks.approved(0);
        x.order(0, 1);
        CHECK.due("pass(1)", x.pass(1), 0);
        CHECK.due("pass(1)", x.pass(1), 1);
        CHECK.due("set(0, 7)", x.set(0, 7), 2);
        CHECK.due("part(0, 2)", x.part(0, 2), 0);
        CHECK.due("part(0, 3)", x.part(0, 3), 0);
        CHECK.due("part(0, 4)", x.part(0, 4), 0);
    }

    private static void promise13Bills() {
        CHECK.promise("promise 13");
        SetRepairs x = Desks.approved(0, 1, 4, 3);
        x.setPart(0, 10000, 2);
        x.setPart(1, 50, 2);
        x.setPart(5, 1000, 2);
        x.setRate(1, Desks.bits(1.0f));
        for (int part = 0; part < 6; part++) {
            x.put(part, 2);
        }
        x.pass(1);
        x.setRate(1, Desks.bits(2.0f));
        x.pass(1);
        CHECK.due("set(0, 4): the estimate", x.set(0, 4), 9140);
        CHECK.due("set(1, 4): the lesser cost", x.set(1, 4), 13570);
        CHECK.due("set(2, 4): the cost in the tolerance", x.set(2, 4), 19400);
        CHECK.due("set(3, 4): the estimate", x.set(3, 4), 22780);
        x = Desks.approved(0);
        x.setPart(0, 50000, 2);
        x.put(0, 1);
        x.pass(1);
        CHECK.due("set(0, 4): estimate * 1.1f", x.set(0, 4), (int) (9140.0f * 1.1f));
        CHECK.due("set(0, 2)", x.set(0, 2), 9140);
        CHECK.due("count(15)", x.count(15), 50000);
        x.setPart(0, 1, 2);
        CHECK.due("set(0, 4) stays", x.set(0, 4), 10054);
    }

    private static void promise13Sales() {
        CHECK.promise("promise 13");
        SetRepairs x = Desks.approved(0);
        x.lend(0);
        x.put(0, 1);
        x.pass(1);
        x.pass(60);
        x.pass(29);
        CHECK.due("set(0, 6) ready for 89 days", x.set(0, 6), 4);
        CHECK.due("count(11)", x.count(11), 1);
        x.keep();
        CHECK.due("pass(1)", x.pass(1), 0);
        CHECK.due("set(0, 6) ready for 90 days", x.set(0, 6), 7);
        CHECK.due("count(14)", x.count(14), 5484);
        CHECK.due("count(12)", x.count(12), 0);
        CHECK.due("count(13)", x.count(13), 0);
        CHECK.due("count(11)", x.count(11), 2);
        CHECK.due("set(0, 5)", x.set(0, 5), 0);
        CHECK.due("set(0, 4)", x.set(0, 4), 9140);
        CHECK.due("set(0, 7)", x.set(0, 7), 1);
        CHECK.due("set(0, 8)", x.set(0, 8), SetRepairs.NONE);
        CHECK.due("collect(0)", x.collect(0), SetRepairs.NOT_POSSIBLE);
        x.pass(60);
        CHECK.due("count(14) once", x.count(14), 5484);
        x.restore();
        x.setRate(3, Desks.bits(0.3333f));
        x.setNumber(3, 5);
        CHECK.due("set(0, 6) ahead of the day's end", x.set(0, 6), 4);
        x.pass(1);
        CHECK.due("count(14)", x.count(14), (int) (9140.0f * 0.3333f));
    }

    private static void promise13RefusedSales() {
        CHECK.promise("promise 13");
        SetRepairs x = Desks.estimated(0, 1);
        x.lend(0);
        x.setNumber(3, 1);
        x.answer(0, false);
        CHECK.due("set(0, 6)", x.set(0, 6), 5);
        x.pass(1);
        CHECK.due("set(0, 6)", x.set(0, 6), 7);
        CHECK.due("set(1, 6)", x.set(1, 6), 1);
        CHECK.due("count(14)", x.count(14), 0);
        CHECK.due("count(11)", x.count(11), 2);
        CHECK.due("set(0, 7)", x.set(0, 7), 0);
        CHECK.due("collect(0)", x.collect(0), SetRepairs.NOT_POSSIBLE);
    }

    private static void promise23Wrong() {
        CHECK.promise("promise 23");
        SetRepairs x = new SetRepairs();
        CHECK.due("set(0, 0)", x.set(0, 0), SetRepairs.UNKNOWN);
        x.come(0);
        CHECK.due("set(-1, 0)", x.set(-1, 0), SetRepairs.UNKNOWN);
        CHECK.due("set(1, 0)", x.set(1, 0), SetRepairs.UNKNOWN);
        CHECK.due("set(1, 9)", x.set(1, 9), SetRepairs.UNKNOWN);
        CHECK.due("set(20, 0)", x.set(20, 0), SetRepairs.UNKNOWN);
        CHECK.due("set(max, 0)", x.set(Integer.MAX_VALUE, 0), SetRepairs.UNKNOWN);
        CHECK.due("set(0, 9)", x.set(0, 9), SetRepairs.BAD_VALUE);
        CHECK.due("set(0, -1)", x.set(0, -1), SetRepairs.BAD_VALUE);
        CHECK.due("set(0, min)", x.set(0, Integer.MIN_VALUE), SetRepairs.BAD_VALUE);
    }

    private static void promise23Told() {
        CHECK.promise("promise 23");
        SetRepairs x = new SetRepairs();
        x.pass(4);
        x.come(4);
        x.estimate(0);
        x.answer(0, true);
        x.lend(0);
        x.put(5, 1);
        x.setNumber(0, 3);
        x.pass(1);
        int[] inWork = {4, 4, 18140, 3, 0, 1, 3, SetRepairs.NONE, SetRepairs.NONE};
        tellsAll(x, inWork);
        x.setPart(5, 90, 2);
        x.pass(1);
        int[] done = {4, 4, 18140, 4, 18126, 1, 4, 6, 0};
        tellsAll(x, done);
        x.pass(9);
        int[] late = {4, 4, 18140, 4, 18126, 1, 4, 6, 51};
        tellsAll(x, late);
        x.collect(0);
        int[] gone = {4, 4, 18140, 4, 18126, 0, 6, 6, SetRepairs.NONE};
        tellsAll(x, gone);
    }

    private static void tellsAll(SetRepairs x, int[] due) {
        for (int what = 0; what < due.length; what++) {
            CHECK.due("set(0, " + what + ")", x.set(0, what), due[what]);
        }
    }

    private static void promise23Ready() {
        CHECK.promise("promise 23");
        SetRepairs x = Desks.estimated(0);
        CHECK.due("set(0, 7) estimated", x.set(0, 7), SetRepairs.NONE);
        CHECK.due("set(0, 8) estimated", x.set(0, 8), SetRepairs.NONE);
        x.pass(3);
        x.answer(0, false);
        CHECK.due("set(0, 7) refused", x.set(0, 7), 3);
        CHECK.due("set(0, 8) refused", x.set(0, 8), 0);
        x.undo();
        CHECK.due("set(0, 7) after undo", x.set(0, 7), SetRepairs.NONE);
        x.answer(0, true);
        CHECK.due("set(0, 7) approved", x.set(0, 7), SetRepairs.NONE);
        CHECK.due("set(0, 8) approved", x.set(0, 8), SetRepairs.NONE);
    }

    private static void promise23Fee() {
        CHECK.promise("promise 23");
        SetRepairs x = Desks.oneDone();
        int[] due = {0, 0, 0, 0, 0, 0, 0, 0, 25, 51, 76, 102};
        for (int days = 0; days < due.length; days++) {
            CHECK.due("set(0, 8) ready for " + days, x.set(0, 8), due[days]);
            x.pass(1);
        }
        x.setNumber(3, 400);
        float[] fees = {0.1f, 333.3f, 999.99f, 1000.0f, 0.0f};
        for (float fee : fees) {
            x.setRate(2, Desks.bits(fee));
            x.pass(1);
            int beyond = x.count(0) - 1 - 7;
            CHECK.due("set(0, 8) at " + fee, x.set(0, 8), (int) ((float) beyond * fee));
        }
    }
}
