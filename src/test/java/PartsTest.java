import java.util.Arrays;

/** Promises 5, 6, 21 and 22: order, put, part, costOf. */
public final class PartsTest {
    private static final Check CHECK = new Check("PartsTest");

    public static void main(String[] args) {
        promise5Days();
        promise5Wrong();
        promise5Room();
        promise5ServesLoanersFirst();
        promise6Stock();
        promise6Room();
        promise6Reserves();
        promise21Wrong();
        promise21Numbers();
        promise21Lacking();
        promise21LackingOfAll();
        promise22Costs();
        promise22Floats();
        CHECK.end();
    }

    private static void promise5Days() {
        CHECK.promise("promise 5");
        SetRepairs x = new SetRepairs();
        CHECK.due("order(0, 1)", x.order(0, 1), 2);
        CHECK.due("order(5, 9)", x.order(5, 9), 2);
        x.setPart(5, 100, 30);
        x.pass(1);
        CHECK.due("order(5, 3)", x.order(5, 3), 31);
        CHECK.due("part(5, 4)", x.part(5, 4), 12);
        CHECK.due("part(5, 2)", x.part(5, 2), 0);
        CHECK.due("count(10)", x.count(10), 3);
        CHECK.due("count(16)", x.count(16), 4);
        x.pass(1);
        CHECK.due("part(5, 4) on day 2", x.part(5, 4), 3);
        CHECK.due("part(5, 2) on day 2", x.part(5, 2), 9);
        CHECK.due("part(0, 2) on day 2", x.part(0, 2), 1);
        CHECK.due("count(10) on day 2", x.count(10), 1);
        x.pass(28);
        CHECK.due("part(5, 2) on day 30", x.part(5, 2), 9);
        x.pass(1);
        CHECK.due("part(5, 2) on day 31", x.part(5, 2), 12);
        CHECK.due("count(10) on day 31", x.count(10), 0);
    }

    private static void promise5Wrong() {
        CHECK.promise("promise 5");
        SetRepairs x = new SetRepairs();
        for (int i = 0; i < 12; i++) {
            CHECK.due("order(6, 1)", x.order(6, 1), SetRepairs.UNKNOWN);
            CHECK.due("order(-1, 1)", x.order(-1, 1), SetRepairs.UNKNOWN);
            CHECK.due("order(6, 0)", x.order(6, 0), SetRepairs.UNKNOWN);
            CHECK.due("order(0, 0)", x.order(0, 0), SetRepairs.BAD_VALUE);
            CHECK.due("order(0, 10)", x.order(0, 10), SetRepairs.BAD_VALUE);
            CHECK.due("order(0, -1)", x.order(0, -1), SetRepairs.BAD_VALUE);
            CHECK.due("count(10)", x.count(10), i);
            x.order(i % 6, 1);
        }
        CHECK.due("order(6, 1) when full", x.order(6, 1), SetRepairs.UNKNOWN);
        CHECK.due("order(0, 10) when full", x.order(0, 10), SetRepairs.BAD_VALUE);
        CHECK.due("order(0, 1) when full", x.order(0, 1), SetRepairs.FULL);
        CHECK.due("count(10)", x.count(10), 12);
    }

    private static void promise5Room() {
        CHECK.promise("promise 5");
        SetRepairs x = new SetRepairs();
        x.setPart(1, 100, 1);
        for (int i = 0; i < 12; i++) {
            CHECK.due("order", x.order(i % 2, 2), i % 2 == 0 ? 2 : 1);
        }
        CHECK.due("order when full", x.order(1, 2), SetRepairs.FULL);
        x.pass(1);
        CHECK.due("count(10)", x.count(10), 6);
        CHECK.due("part(1, 2)", x.part(1, 2), 12);
        CHECK.due("part(0, 4)", x.part(0, 4), 12);
        for (int i = 0; i < 6; i++) {
            CHECK.due("order", x.order(2, 1), 3);
        }
        CHECK.due("order when full", x.order(2, 1), SetRepairs.FULL);
        x.undo();
        CHECK.due("order after undo", x.order(3, 1), 3);
        CHECK.due("part(2, 4)", x.part(2, 4), 5);
        CHECK.due("part(3, 4)", x.part(3, 4), 1);
    }

    private static void promise5ServesLoanersFirst() {
        CHECK.promise("promise 5");
        SetRepairs x = Desks.approved(2, 2);
        x.order(2, 1);
        x.order(2, 2);
        x.lend(1);
        x.pass(2);
        CHECK.due("set(1, 6)", x.set(1, 6), 4);
        CHECK.due("set(0, 6)", x.set(0, 6), 2);
        CHECK.due("part(2, 2)", x.part(2, 2), 1);
        CHECK.due("part(2, 3)", x.part(2, 3), 0);
    }

    private static void promise6Stock() {
        CHECK.promise("promise 6");
        SetRepairs x = new SetRepairs();
        CHECK.due("put(3, 1)", x.put(3, 1), 1);
        CHECK.due("put(3, 9)", x.put(3, 9), 10);
        CHECK.due("put(4, 9)", x.put(4, 9), 9);
        CHECK.due("part(3, 2)", x.part(3, 2), 10);
        CHECK.due("part(3, 3)", x.part(3, 3), 0);
        CHECK.due("put(6, 1)", x.put(6, 1), SetRepairs.UNKNOWN);
        CHECK.due("put(-1, 1)", x.put(-1, 1), SetRepairs.UNKNOWN);
        CHECK.due("put(6, 10)", x.put(6, 10), SetRepairs.UNKNOWN);
        CHECK.due("put(3, 0)", x.put(3, 0), SetRepairs.BAD_VALUE);
        CHECK.due("put(3, 10)", x.put(3, 10), SetRepairs.BAD_VALUE);
        CHECK.due("put(3, max)", x.put(3, Integer.MAX_VALUE), SetRepairs.BAD_VALUE);
        CHECK.due("count(16)", x.count(16), 3);
        x.undo();
        CHECK.due("part(4, 2)", x.part(4, 2), 0);
    }

    private static void promise6Room() {
        CHECK.promise("promise 6");
        SetRepairs x = new SetRepairs();
        for (int i = 1; i <= 10; i++) {
            CHECK.due("put(0, 9)", x.put(0, 9), 9 * i);
        }
        CHECK.due("put(0, 8)", x.put(0, 8), 98);
        CHECK.due("put(0, 2)", x.put(0, 2), SetRepairs.FULL);
        CHECK.due("put(0, 10)", x.put(0, 10), SetRepairs.BAD_VALUE);
        CHECK.due("put(0, 1)", x.put(0, 1), 99);
        CHECK.due("put(0, 1) at 99", x.put(0, 1), SetRepairs.FULL);
        CHECK.due("put(1, 1)", x.put(1, 1), 1);
        x.order(0, 9);
        x.pass(2);
        CHECK.due("part(0, 2) beyond 99", x.part(0, 2), 108);
        CHECK.due("put(0, 1) at 108", x.put(0, 1), SetRepairs.FULL);
        x.estimate(x.come(0));
        x.answer(0, true);
        CHECK.due("part(0, 3)", x.part(0, 3), 1);
        CHECK.due("part(0, 2) when reserved", x.part(0, 2), 108);
    }

    private static void promise6Reserves() {
        CHECK.promise("promise 6");
        SetRepairs x = Desks.approved(3, 3, 1);
        x.lend(1);
        CHECK.due("put(3, 1)", x.put(3, 1), 1);
        CHECK.due("set(1, 6) with one of two parts", x.set(1, 6), 2);
        CHECK.due("part(3, 3)", x.part(3, 3), 0);
        CHECK.due("put(4, 1)", x.put(4, 1), 1);
        CHECK.due("set(1, 6)", x.set(1, 6), 3);
        CHECK.due("set(0, 6)", x.set(0, 6), 2);
        CHECK.due("part(3, 3)", x.part(3, 3), 1);
        CHECK.due("part(4, 3)", x.part(4, 3), 1);
        x.put(3, 2);
        CHECK.due("put(4, 3)", x.put(4, 3), 4);
        CHECK.due("set(0, 6)", x.set(0, 6), 3);
        CHECK.due("set(2, 6)", x.set(2, 6), 2);
        CHECK.due("part(4, 3)", x.part(4, 3), 2);
        x = Desks.approved(2, 0);
        CHECK.due("put(2, 1)", x.put(2, 1), 1);
        CHECK.due("set(0, 6) with one of two", x.set(0, 6), 2);
        CHECK.due("put(0, 1)", x.put(0, 1), 1);
        CHECK.due("a later set goes ahead", x.set(1, 6), 3);
        CHECK.due("put(2, 1)", x.put(2, 1), 2);
        CHECK.due("set(0, 6) with two of two", x.set(0, 6), 3);
        CHECK.due("part(2, 3)", x.part(2, 3), 2);
    }

    private static void promise21Wrong() {
        CHECK.promise("promise 21");
        SetRepairs x = new SetRepairs();
        CHECK.due("part(6, 0)", x.part(6, 0), SetRepairs.UNKNOWN);
        CHECK.due("part(-1, 0)", x.part(-1, 0), SetRepairs.UNKNOWN);
        CHECK.due("part(6, 6)", x.part(6, 6), SetRepairs.UNKNOWN);
        CHECK.due("part(0, 6)", x.part(0, 6), SetRepairs.BAD_VALUE);
        CHECK.due("part(0, -1)", x.part(0, -1), SetRepairs.BAD_VALUE);
        CHECK.due("part(5, max)", x.part(5, Integer.MAX_VALUE), SetRepairs.BAD_VALUE);
    }

    private static void promise21Numbers() {
        CHECK.promise("promise 21");
        SetRepairs x = Desks.approved(4);
        x.setPart(5, 321, 3);
        x.put(5, 4);
        x.order(5, 2);
        x.order(0, 7);
        x.order(5, 5);
        int[] due = {321, 3, 4, 1, 7, 0};
        for (int what = 0; what < 6; what++) {
            CHECK.due("part(5, " + what + ")", x.part(5, what), due[what]);
        }
        x.pass(1);
        CHECK.due("part(5, 2) when built in", x.part(5, 2), 3);
        CHECK.due("part(5, 3) when built in", x.part(5, 3), 0);
        CHECK.due("part(0, 4)", x.part(0, 4), 7);
    }

    private static void promise21Lacking() {
        CHECK.promise("promise 21");
        SetRepairs x = Desks.estimated(2, 2, 2, 1);
        CHECK.due("part(2, 5) of none approved", x.part(2, 5), 0);
        x.answer(0, true);
        x.answer(1, true);
        x.answer(2, false);
        x.answer(3, true);
        CHECK.due("part(2, 5)", x.part(2, 5), 4);
        CHECK.due("part(1, 5)", x.part(1, 5), 1);
        CHECK.due("part(0, 5)", x.part(0, 5), 0);
        x.put(2, 1);
        CHECK.due("part(2, 5) with 1", x.part(2, 5), 3);
        x.order(2, 2);
        CHECK.due("part(2, 5) with 2 on order", x.part(2, 5), 1);
        x.order(2, 9);
        CHECK.due("part(2, 5) with 11 on order", x.part(2, 5), 0);
        x.undo();
        x.put(2, 1);
        CHECK.due("set(0, 6)", x.set(0, 6), 3);
        CHECK.due("part(2, 5) with one in work", x.part(2, 5), 0);
        x.undo();
        x.undo();
        x.put(2, 1);
        CHECK.due("part(2, 5) without orders", x.part(2, 5), 3 - 1);
    }

    private static void promise21LackingOfAll() {
        CHECK.promise("promise 21");
        int[] faults = new int[20];
        Arrays.fill(faults, 2);
        SetRepairs x = Desks.approved(faults);
        CHECK.due("part(2, 5) for 20 sets", x.part(2, 5), 40);
        x.put(2, 9);
        CHECK.due("part(2, 5) for 16 sets, one part there", x.part(2, 5), 31);
        CHECK.due("part(2, 3)", x.part(2, 3), 8);
    }

    private static void promise22Costs() {
        CHECK.promise("promise 22");
        SetRepairs x = new SetRepairs();
        CHECK.due("costOf(5)", x.costOf(5), SetRepairs.UNKNOWN);
        CHECK.due("costOf(-1)", x.costOf(-1), SetRepairs.UNKNOWN);
        CHECK.due("costOf(min)", x.costOf(Integer.MIN_VALUE), SetRepairs.UNKNOWN);
        int[] prices = {1000, 2000, 3000, 4000, 5000, 6000};
        for (int part = 0; part < 6; part++) {
            x.setPart(part, prices[part], 2);
        }
        x.setRate(0, Desks.bits(2.0f));
        x.setNumber(1, 100);
        int[] due = {2200, 4300, 12100, 18500, 12400};
        for (int fault = 0; fault < 5; fault++) {
            CHECK.due("costOf(" + fault + ")", x.costOf(fault), due[fault]);
        }
        CHECK.due("count(16)", x.count(16), 4);
    }

    /** Costs that would be others if they were reckoned in doubles, or rounded but once. */
    private static void promise22Floats() {
        CHECK.promise("promise 22");
        int[][] cases = {
            {21618, 1068993012, 13012, 83046},
            {8291, 1070900764, 7308, 43006},
            {14266, 1071376241, 18966, 100373},
            {46240, 1071198209, 15464, 140315},
        };
        for (int[] one : cases) {
            SetRepairs x = new SetRepairs();
            x.setPart(5, one[0], 2);
            x.setRate(0, one[1]);
            x.setNumber(1, one[2]);
            CHECK.due("costOf(4) at price " + one[0], x.costOf(4), one[3]);
        }
        SetRepairs x = new SetRepairs();
        for (int i = 0; i < 120; i++) {
            int price = 5 + i * 415;
            float markup = 1.0f + (i % 20) * 0.1f;
            x.setPart(5, price, 2);
            x.setRate(0, Desks.bits(markup));
            float parts = (float) price * markup;
            CHECK.due("costOf(4) at price " + price, x.costOf(4), (int) (parts + (float) 18000));
        }
    }
}
