/** Promises 24 to 28: waitsFor, lacks, doneIn, meanDays, count. */
public final class ToldTest {
    private static final Check CHECK = new Check("ToldTest");

    public static void main(String[] args) {
        promise24States();
        promise24Parts();
        promise25Lacks();
        promise26Days();
        promise26OtherSets();
        promise26Orders();
        promise26AnyDay();
        promise26ChangesNothing();
        promise27Mean();
        promise27Gone();
        promise28Wrong();
        promise28States();
        promise28Sums();
        CHECK.end();
    }

    private static void promise24States() {
        CHECK.promise("promise 24");
        SetRepairs x = new SetRepairs();
        CHECK.due("waitsFor(0)", x.waitsFor(0), SetRepairs.UNKNOWN);
        x.come(0);
        CHECK.due("waitsFor(-1)", x.waitsFor(-1), SetRepairs.UNKNOWN);
        CHECK.due("waitsFor(1)", x.waitsFor(1), SetRepairs.UNKNOWN);
        CHECK.due("waitsFor(0) in", x.waitsFor(0), 0);
        x.estimate(0);
        CHECK.due("waitsFor(0) estimated", x.waitsFor(0), 1);
        x.answer(0, false);
        CHECK.due("waitsFor(0) refused", x.waitsFor(0), 5);
        x.undo();
        x.answer(0, true);
        CHECK.due("waitsFor(0) approved", x.waitsFor(0), 3);
        x.order(0, 1);
        CHECK.due("waitsFor(0) ordered", x.waitsFor(0), 2);
        x.put(0, 1);
        CHECK.due("waitsFor(0) in work", x.waitsFor(0), 4);
        x.pass(1);
        CHECK.due("waitsFor(0) done", x.waitsFor(0), 5);
        x.collect(0);
        CHECK.due("waitsFor(0) collected", x.waitsFor(0), SetRepairs.NONE);
        x.undo();
        x.setNumber(3, 1);
        x.pass(1);
        CHECK.due("waitsFor(0) sold", x.waitsFor(0), SetRepairs.NONE);
    }

    private static void promise24Parts() {
        CHECK.promise("promise 24");
        SetRepairs x = Desks.approved(2, 3);
        CHECK.due("waitsFor(0)", x.waitsFor(0), 3);
        x.order(2, 1);
        CHECK.due("waitsFor(0), one of two ordered", x.waitsFor(0), 3);
        x.put(2, 1);
        CHECK.due("waitsFor(0), one there, one ordered", x.waitsFor(0), 2);
        x.undo();
        x.order(2, 1);
        CHECK.due("waitsFor(0), two orders", x.waitsFor(0), 2);
        x.order(4, 1);
        CHECK.due("waitsFor(1), the other one ordered", x.waitsFor(1), 3);
        x.put(3, 1);
        CHECK.due("waitsFor(1), one there, one ordered", x.waitsFor(1), 2);
        x.undo();
        x.order(3, 1);
        CHECK.due("waitsFor(1), both ordered", x.waitsFor(1), 2);
        x = Desks.approved(0, 0);
        x.put(0, 1);
        CHECK.due("waitsFor(1), the part is reserved", x.waitsFor(1), 3);
        CHECK.due("waitsFor(0)", x.waitsFor(0), 4);
        x = Desks.approved(0, 0);
        x.order(0, 1);
        CHECK.due("waitsFor(0), one for two", x.waitsFor(0), 2);
        CHECK.due("waitsFor(1), one for two", x.waitsFor(1), 2);
    }

    private static void promise25Lacks() {
        CHECK.promise("promise 25");
        SetRepairs x = Desks.estimated(3, 2, 4, 3);
        CHECK.due("lacks(4)", x.lacks(4), SetRepairs.UNKNOWN);
        CHECK.due("lacks(-1)", x.lacks(-1), SetRepairs.UNKNOWN);
        CHECK.due("lacks(0) estimated", x.lacks(0), SetRepairs.NONE);
        x.answer(0, true);
        x.answer(1, true);
        x.answer(2, true);
        CHECK.due("lacks(0)", x.lacks(0), 3);
        CHECK.due("lacks(1)", x.lacks(1), 2);
        CHECK.due("lacks(2)", x.lacks(2), 5);
        x.order(3, 9);
        CHECK.due("lacks(0), ordered", x.lacks(0), 3);
        x.put(3, 1);
        CHECK.due("lacks(0), part 3 there", x.lacks(0), 4);
        x.undo();
        x.put(4, 1);
        CHECK.due("lacks(0), part 4 there", x.lacks(0), 3);
        x.put(2, 1);
        CHECK.due("lacks(1), one of two there", x.lacks(1), 2);
        x.put(3, 1);
        CHECK.due("lacks(0) in work", x.lacks(0), SetRepairs.NONE);
        x.answer(3, true);
        CHECK.due("lacks(3), parts are reserved", x.lacks(3), 3);
        x.pass(1);
        CHECK.due("lacks(0) done", x.lacks(0), SetRepairs.NONE);
        x.collect(0);
        CHECK.due("lacks(0) collected", x.lacks(0), SetRepairs.NONE);
        x.come(0);
        CHECK.due("lacks(4) in", x.lacks(4), SetRepairs.NONE);
    }

    private static void promise26Days() {
        CHECK.promise("promise 26");
        int[] parts = {0, 1, 2, 3, 5};
        int[] hours = {2, 3, 1, 5, 4};
        for (int fault = 0; fault < 5; fault++) {
            SetRepairs x = Desks.estimated(fault);
            CHECK.due("doneIn(1)", x.doneIn(1), SetRepairs.UNKNOWN);
            CHECK.due("doneIn(-1)", x.doneIn(-1), SetRepairs.UNKNOWN);
            CHECK.due("doneIn(0) estimated", x.doneIn(0), SetRepairs.NONE);
            x.answer(0, true);
            CHECK.due("doneIn(0) without parts", x.doneIn(0), SetRepairs.NONE);
            x.put(parts[fault], 2);
            x.put(4, 1);
            CHECK.due("doneIn(0)", x.doneIn(0), 1);
            x.setNumber(0, 2);
            CHECK.due("doneIn(0) at 2 hours", x.doneIn(0), (hours[fault] + 1) / 2);
            x.setNumber(0, 1);
            CHECK.due("doneIn(0) at an hour", x.doneIn(0), hours[fault]);
            x.pass(hours[fault]);
            CHECK.due("doneIn(0) done", x.doneIn(0), SetRepairs.NONE);
            x.collect(0);
            CHECK.due("doneIn(0) collected", x.doneIn(0), SetRepairs.NONE);
        }
        SetRepairs x = Desks.estimated(0);
        x.answer(0, false);
        CHECK.due("doneIn(0) refused", x.doneIn(0), SetRepairs.NONE);
    }

    private static void promise26OtherSets() {
        CHECK.promise("promise 26");
        SetRepairs x = new SetRepairs();
        for (int set = 0; set < 20; set++) {
            x.come(3);
            x.estimate(set);
            x.answer(set, true);
        }
        for (int i = 0; i < 4; i++) {
            x.put(3, 5);
            x.put(4, 5);
        }
        x.setNumber(0, 1);
        for (int set = 0; set < 20; set++) {
            CHECK.due("doneIn(" + set + ")", x.doneIn(set), 5 * set + 5);
        }
        x.lend(19);
        x.lend(7);
        CHECK.due("doneIn(7) with a loaner", x.doneIn(7), 5);
        CHECK.due("doneIn(19) with a loaner", x.doneIn(19), 10);
        CHECK.due("doneIn(0)", x.doneIn(0), 15);
        CHECK.due("doneIn(6)", x.doneIn(6), 45);
        CHECK.due("doneIn(8)", x.doneIn(8), 50);
        CHECK.due("doneIn(18)", x.doneIn(18), 100);
    }

    private static void promise26Orders() {
        CHECK.promise("promise 26");
        SetRepairs x = Desks.approved(2, 2, 3);
        x.setPart(2, 100, 30);
        x.order(2, 1);
        CHECK.due("doneIn(0), one of two", x.doneIn(0), SetRepairs.NONE);
        x.setPart(2, 100, 4);
        x.order(2, 1);
        CHECK.due("doneIn(0), two orders", x.doneIn(0), 30);
        CHECK.due("doneIn(1)", x.doneIn(1), SetRepairs.NONE);
        x.order(2, 2);
        CHECK.due("doneIn(0)", x.doneIn(0), 4);
        CHECK.due("doneIn(1)", x.doneIn(1), 30);
        x.lend(1);
        CHECK.due("doneIn(1) with a loaner", x.doneIn(1), 4);
        CHECK.due("doneIn(0)", x.doneIn(0), 30);
        x.order(3, 1);
        CHECK.due("doneIn(2), one of two", x.doneIn(2), SetRepairs.NONE);
        x.setPart(4, 100, 9);
        x.order(4, 1);
        x.setNumber(0, 3);
        CHECK.due("doneIn(2)", x.doneIn(2), 10);
        x.pass(3);
        CHECK.due("doneIn(2) 3 days later", x.doneIn(2), 7);
        CHECK.due("doneIn(1) 3 days later", x.doneIn(1), 1);
        CHECK.due("pass(7)", x.pass(7), 2);
    }

    private static void promise26AnyDay() {
        CHECK.promise("promise 26");
        SetRepairs x = Desks.approved(4);
        for (int i = 0; i < 166; i++) {
            x.pass(60);
        }
        x.pass(39);
        x.setPart(5, 100, 30);
        x.order(5, 1);
        x.setNumber(0, 1);
        CHECK.due("count(0)", x.count(0), 9999);
        CHECK.due("doneIn(0) on the last day", x.doneIn(0), 33);
        CHECK.due("waitsFor(0)", x.waitsFor(0), 2);
    }

    private static void promise26ChangesNothing() {
        CHECK.promise("promise 26");
        SetRepairs x = Desks.approved(0, 1, 3);
        x.lend(1);
        x.put(0, 1);
        x.order(1, 1);
        x.order(3, 2);
        x.order(4, 2);
        x.keep();
        int states = x.count(16);
        String before = Desks.told(x);
        for (int set = 0; set < 3; set++) {
            x.doneIn(set);
        }
        CHECK.dueTrue("doneIn changed something", before.equals(Desks.told(x)));
        CHECK.due("count(16)", x.count(16), states);
        CHECK.due("restore()", x.restore(), 0);
        CHECK.dueTrue("doneIn changed the snapshot", before.equals(Desks.told(x)));
    }

    private static void promise27Mean() {
        CHECK.promise("promise 27");
        SetRepairs x = Desks.approved(0, 0, 1);
        CHECK.dueFloat("meanDays() of none", x.meanDays(), Float.NaN);
        x.put(0, 1);
        x.pass(1);
        CHECK.dueFloat("meanDays() of 1", x.meanDays(), 1.0f);
        x.pass(1);
        x.put(0, 1);
        x.pass(1);
        CHECK.dueFloat("meanDays() of 1, 3", x.meanDays(), 2.0f);
        x.pass(2);
        x.put(1, 1);
        x.pass(1);
        CHECK.dueFloat("meanDays() of 1, 3, 6", x.meanDays(), 10.0f / 3.0f);
        x.estimate(x.come(2));
        x.answer(3, true);
        x.put(2, 2);
        x.pass(1);
        CHECK.dueFloat("meanDays() of 1, 3, 6, 1", x.meanDays(), 11.0f / 4.0f);
        x.undo();
        CHECK.dueFloat("meanDays() after undo", x.meanDays(), 10.0f / 3.0f);
    }

    private static void promise27Gone() {
        CHECK.promise("promise 27");
        SetRepairs x = Desks.estimated(0, 1, 2);
        x.answer(0, true);
        x.answer(1, false);
        CHECK.dueFloat("meanDays() of a refused one", x.meanDays(), Float.NaN);
        x.collect(1);
        CHECK.dueFloat("meanDays() of a refused one, gone", x.meanDays(), Float.NaN);
        x.pass(3);
        x.put(0, 1);
        x.pass(2);
        x.collect(0);
        CHECK.dueFloat("meanDays() of a collected one", x.meanDays(), 4.0f);
        x.answer(2, true);
        x.put(2, 2);
        x.setNumber(3, 1);
        x.pass(9);
        CHECK.due("set(2, 6)", x.set(2, 6), 7);
        CHECK.dueFloat("meanDays() with a sold one", x.meanDays(), 5.0f);
    }

    private static void promise28Wrong() {
        CHECK.promise("promise 28");
        SetRepairs x = new SetRepairs();
        int[] wrong = {-1, 18, 19, Integer.MIN_VALUE, Integer.MAX_VALUE};
        for (int what : wrong) {
            CHECK.due("count(" + what + ")", x.count(what), SetRepairs.BAD_VALUE);
        }
    }

    private static void promise28States() {
        CHECK.promise("promise 28");
        SetRepairs x = new SetRepairs();
        for (int set = 0; set < 20; set++) {
            x.come(0);
            if (set >= 1) {
                x.estimate(set);
            }
        }
        x.setNumber(3, 400);
        for (int set = 3; set < 20; set++) {
            x.answer(set, set < 14);
        }
        x.put(0, 8);
        x.setNumber(0, 10);
        x.pass(1);
        x.collect(3);
        x.collect(4);
        x.collect(19);
        int[] due = {1, 2, 3, 3, 3, 5, 3, 0};
        for (int state = 0; state < 8; state++) {
            CHECK.due("count(" + (state + 2) + ")", x.count(state + 2), due[state]);
        }
        x.setNumber(3, 1);
        x.setNumber(0, 1);
        x.pass(1);
        int[] dueThen = {1, 2, 3, 3, 0, 0, 3, 8};
        for (int state = 0; state < 8; state++) {
            CHECK.due("count(" + (state + 2) + ") then", x.count(state + 2), dueThen[state]);
        }
        CHECK.due("count(1)", x.count(1), 20);
        CHECK.due("count(0)", x.count(0), 2);
    }

    private static void promise28Sums() {
        CHECK.promise("promise 28");
        SetRepairs x = Desks.approved(0, 2, 4, 3);
        x.setPart(2, 150, 2);
        x.setPart(5, 1234, 2);
        x.put(0, 1);
        x.put(2, 2);
        x.put(5, 1);
        x.put(3, 1);
        x.put(4, 1);
        x.lend(0);
        x.order(1, 1);
        CHECK.due("count(10)", x.count(10), 1);
        CHECK.due("count(11)", x.count(11), 1);
        CHECK.due("count(15) in work", x.count(15), 0);
        x.pass(1);
        CHECK.due("count(15) with 3 done", x.count(15), 100 + 300 + 1234);
        x.setPart(5, 1, 2);
        x.pass(1);
        CHECK.due("count(15) with 4 done", x.count(15), 100 + 300 + 1234 + 200);
        CHECK.due("count(10)", x.count(10), 0);
        x.pass(8);
        CHECK.due("collect(0)", x.collect(0), 9140 + 51);
        CHECK.due("collect(1)", x.collect(1), 4920 + 51);
        CHECK.due("count(12)", x.count(12), 9140 + 4920);
        CHECK.due("count(13)", x.count(13), 102);
        x.setNumber(3, 9);
        x.pass(1);
        CHECK.due("count(14)", x.count(14), (int) (19727.0f * 0.6f) + (int) (22780.0f * 0.6f));
        CHECK.due("count(12)", x.count(12), 9140 + 4920);
        CHECK.due("count(16)", x.count(16), 4);
        x.undo();
        CHECK.due("count(14) after undo", x.count(14), 0);
        x.type('a');
        x.type('b');
        CHECK.due("count(17)", x.count(17), 2);
    }
}
