/** Promises 1 to 4, 19 and 20: a new object, setRate, setNumber, setPart, rate, number. */
public final class SettingsTest {
    private static final Check CHECK = new Check("SettingsTest");
    private static final int[] WRONG_BITS = {
        0x80000000, 0xbf800000, 0x7f800000, 0xff800000, 0x7fc00000, 0x7f800001, 0xffc00000, -1,
        Integer.MAX_VALUE, 0x80000001,
    };

    public static void main(String[] args) {
        promise1NewObject();
        promise2FirstRates();
        promise2Ranges();
        promise2Order();
        promise2SmallRates();
        promise3Ranges();
        promise3Loaners();
        promise3WhatNumbersDo();
        promise4SetPart();
        promise4OrdersStay();
        promise19Rate();
        promise20Number();
        CHECK.end();
    }

    private static void promise1NewObject() {
        CHECK.promise("promise 1");
        SetRepairs x = new SetRepairs();
        for (int what = 0; what <= 17; what++) {
            CHECK.due("count(" + what + ")", x.count(what), what == 11 ? 2 : 0);
        }
        for (int part = 0; part < 6; part++) {
            int[] due = {100, 2, 0, 0, 0, 0};
            for (int what = 0; what < 6; what++) {
                CHECK.due("part(" + part + ", " + what + ")", x.part(part, what), due[what]);
            }
        }
        int[] costs = {9140, 13640, 4780, 22780, 18140};
        for (int fault = 0; fault < 5; fault++) {
            CHECK.due("costOf(" + fault + ")", x.costOf(fault), costs[fault]);
        }
        CHECK.due("set(0, 0)", x.set(0, 0), SetRepairs.UNKNOWN);
        CHECK.due("undo()", x.undo(), SetRepairs.NONE);
        CHECK.due("restore()", x.restore(), SetRepairs.NONE);
        CHECK.dueFloat("meanDays()", x.meanDays(), Float.NaN);
        CHECK.due("clearText()", x.clearText(), 0);
        SetRepairs other = new SetRepairs();
        other.put(0, 3);
        other.come(1);
        CHECK.due("part(0, 2) of another object", x.part(0, 2), 0);
        CHECK.due("count(1) of another object", x.count(1), 0);
    }

    private static void promise2FirstRates() {
        CHECK.promise("promise 2");
        float[] first = {1.4f, 1.1f, 25.5f, 0.6f};
        for (int which = 0; which < 4; which++) {
            SetRepairs x = new SetRepairs();
            CHECK.dueFloat("rate(" + which + ")", x.rate(which), first[which]);
            CHECK.due("setRate to the same", x.setRate(which, Desks.bits(first[which])), SetRepairs.NONE);
            CHECK.due("count(16)", x.count(16), 0);
            CHECK.due("setRate to 1.0f", x.setRate(which, Desks.bits(1.0f)), 1);
            CHECK.dueFloat("rate then", x.rate(which), 1.0f);
            CHECK.due("count(16) then", x.count(16), 1);
            CHECK.due("setRate to 1.0f again", x.setRate(which, Desks.bits(1.0f)), SetRepairs.NONE);
            CHECK.due("undo()", x.undo(), 0);
            CHECK.dueFloat("rate after undo", x.rate(which), first[which]);
        }
    }

    private static void promise2Ranges() {
        CHECK.promise("promise 2");
        float[] lowest = {1.0f, 1.0f, 0.0f, 0.0f};
        float[] highest = {3.0f, 2.0f, 1000.0f, 1.0f};
        for (int which = 0; which < 4; which++) {
            SetRepairs x = new SetRepairs();
            String call = "setRate(" + which + ", ..)";
            int low = Desks.bits(lowest[which]);
            int high = Desks.bits(highest[which]);
            CHECK.due(call + " below", x.setRate(which, low - 1), SetRepairs.BAD_VALUE);
            CHECK.due(call + " above", x.setRate(which, high + 1), SetRepairs.BAD_VALUE);
            for (int bits : WRONG_BITS) {
                CHECK.due(call + " " + bits, x.setRate(which, bits), SetRepairs.BAD_VALUE);
            }
            CHECK.due("count(16)", x.count(16), 0);
            CHECK.due(call + " lowest", x.setRate(which, low), 1);
            CHECK.dueFloat("rate", x.rate(which), lowest[which]);
            CHECK.due(call + " highest", x.setRate(which, high), 1);
            CHECK.dueFloat("rate", x.rate(which), highest[which]);
            CHECK.due(call + " just above lowest", x.setRate(which, low + 1), 1);
            CHECK.dueFloat("rate", x.rate(which), Float.intBitsToFloat(low + 1));
            CHECK.due(call + " just below highest", x.setRate(which, high - 1), 1);
            CHECK.dueFloat("rate", x.rate(which), Float.intBitsToFloat(high - 1));
            CHECK.due(call + " -0.0f", x.setRate(which, Desks.bits(-0.0f)), SetRepairs.BAD_VALUE);
        }
    }

    private static void promise2Order() {
        CHECK.promise("promise 2");
        SetRepairs x = new SetRepairs();
        CHECK.due("setRate(4, 1.0f)", x.setRate(4, Desks.bits(1.0f)), SetRepairs.UNKNOWN);
        CHECK.due("setRate(-1, 1.0f)", x.setRate(-1, Desks.bits(1.0f)), SetRepairs.UNKNOWN);
        CHECK.due("setRate(4, NaN)", x.setRate(4, 0x7fc00000), SetRepairs.UNKNOWN);
        CHECK.due("setRate(min, -0.0f)", x.setRate(Integer.MIN_VALUE, 0x80000000), SetRepairs.UNKNOWN);
        CHECK.due("setRate(max, 0)", x.setRate(Integer.MAX_VALUE, 0), SetRepairs.UNKNOWN);
        x.setRate(2, 0);
        CHECK.due("setRate(2, -0.0f) at 0.0f", x.setRate(2, 0x80000000), SetRepairs.BAD_VALUE);
        CHECK.due("setRate(2, 0.0f) at 0.0f", x.setRate(2, 0), SetRepairs.NONE);
    }

    /** Floats without a leading digit, and others from every power of two. */
    private static void promise2SmallRates() {
        CHECK.promise("promise 2");
        int[] digits = {0, 1, 0x555555, 0x7fffff};
        SetRepairs x = new SetRepairs();
        int calls = 0;
        for (int exponent = 0; exponent <= 135; exponent++) {
            for (int some : digits) {
                if (calls >= 500) {
                    x = new SetRepairs();
                    calls = 0;
                }
                int bits = exponent << 23 | some;
                x.setRate(2, bits);
                CHECK.dueFloat("rate(2) by " + bits, x.rate(2), Float.intBitsToFloat(bits));
                calls += 2;
            }
        }
    }

    private static void promise3Ranges() {
        CHECK.promise("promise 3");
        int[] lowest = {1, 100, 0, 1, 0};
        int[] highest = {24, 20000, 60, 400, 6};
        int[] first = {8, 4500, 7, 90, 2};
        for (int which = 0; which < 5; which++) {
            SetRepairs x = new SetRepairs();
            String call = "setNumber(" + which + ", ..)";
            CHECK.due("number(" + which + ")", x.number(which), first[which]);
            CHECK.due(call + " below", x.setNumber(which, lowest[which] - 1), SetRepairs.BAD_VALUE);
            CHECK.due(call + " above", x.setNumber(which, highest[which] + 1), SetRepairs.BAD_VALUE);
            CHECK.due(call + " min", x.setNumber(which, Integer.MIN_VALUE), SetRepairs.BAD_VALUE);
            CHECK.due(call + " max", x.setNumber(which, Integer.MAX_VALUE), SetRepairs.BAD_VALUE);
            CHECK.due(call + " same", x.setNumber(which, first[which]), SetRepairs.NONE);
            CHECK.due("count(16)", x.count(16), 0);
            CHECK.due(call + " lowest", x.setNumber(which, lowest[which]), first[which]);
            CHECK.due("number(" + which + ")", x.number(which), lowest[which]);
            CHECK.due(call + " highest", x.setNumber(which, highest[which]), lowest[which]);
            CHECK.due("number(" + which + ")", x.number(which), highest[which]);
            CHECK.due("count(16)", x.count(16), 2);
            CHECK.due("undo()", x.undo(), 1);
            CHECK.due("number(" + which + ")", x.number(which), lowest[which]);
        }
        SetRepairs x = new SetRepairs();
        CHECK.due("setNumber(5, 1)", x.setNumber(5, 1), SetRepairs.UNKNOWN);
        CHECK.due("setNumber(-1, 1)", x.setNumber(-1, 1), SetRepairs.UNKNOWN);
        CHECK.due("setNumber(5, -1)", x.setNumber(5, -1), SetRepairs.UNKNOWN);
    }

    private static void promise3Loaners() {
        CHECK.promise("promise 3");
        SetRepairs x = Desks.estimated(0, 1, 2);
        x.lend(0);
        x.lend(2);
        CHECK.due("setNumber(4, 1) with 2 lent", x.setNumber(4, 1), SetRepairs.NOT_POSSIBLE);
        CHECK.due("setNumber(4, 0) with 2 lent", x.setNumber(4, 0), SetRepairs.NOT_POSSIBLE);
        CHECK.due("setNumber(4, 7) with 2 lent", x.setNumber(4, 7), SetRepairs.BAD_VALUE);
        CHECK.due("setNumber(4, 2) with 2 lent", x.setNumber(4, 2), SetRepairs.NONE);
        CHECK.due("setNumber(2, 1) with 2 lent", x.setNumber(2, 1), 7);
        CHECK.due("setNumber(4, 3) with 2 lent", x.setNumber(4, 3), 2);
        CHECK.due("count(11)", x.count(11), 1);
        CHECK.due("setNumber(4, 2) back", x.setNumber(4, 2), 3);
        CHECK.due("count(11)", x.count(11), 0);
        x.answer(0, false);
        x.collect(0);
        CHECK.due("setNumber(4, 1) with 1 lent", x.setNumber(4, 1), 2);
        CHECK.due("number(4)", x.number(4), 1);
    }

    private static void promise3WhatNumbersDo() {
        CHECK.promise("promise 3");
        SetRepairs x = new SetRepairs();
        x.setNumber(1, 101);
        CHECK.due("costOf(4) by the wage", x.costOf(4), 140 + 404);
        x = Desks.approved(4);
        x.put(5, 1);
        x.setNumber(0, 1);
        CHECK.due("doneIn(0) at an hour a day", x.doneIn(0), 4);
        x.setNumber(0, 4);
        CHECK.due("doneIn(0) at 4 hours a day", x.doneIn(0), 1);
        x = Desks.oneDone();
        x.setNumber(2, 0);
        x.pass(1);
        CHECK.due("set(0, 8) without grace", x.set(0, 8), 25);
        x.setNumber(2, 1);
        CHECK.due("set(0, 8) in the grace", x.set(0, 8), 0);
        x.setNumber(3, 3);
        x.pass(1);
        CHECK.due("set(0, 6) ready for 2 days", x.set(0, 6), 4);
        x.pass(1);
        CHECK.due("set(0, 6) ready for 3 days", x.set(0, 6), 7);
    }

    private static void promise4SetPart() {
        CHECK.promise("promise 4");
        for (int part = 0; part < 6; part++) {
            SetRepairs x = new SetRepairs();
            CHECK.due("same", x.setPart(part, 100, 2), SetRepairs.NONE);
            CHECK.due("price 0", x.setPart(part, 0, 2), SetRepairs.BAD_VALUE);
            CHECK.due("price 50001", x.setPart(part, 50001, 2), SetRepairs.BAD_VALUE);
            CHECK.due("lead 0", x.setPart(part, 200, 0), SetRepairs.BAD_VALUE);
            CHECK.due("lead 31", x.setPart(part, 200, 31), SetRepairs.BAD_VALUE);
            CHECK.due("count(16)", x.count(16), 0);
            CHECK.due("price 1, lead 1", x.setPart(part, 1, 1), 100);
            CHECK.due("price 50000, lead 30", x.setPart(part, 50000, 30), 1);
            CHECK.due("only the lead", x.setPart(part, 50000, 29), 50000);
            CHECK.due("only the price", x.setPart(part, 49999, 29), 50000);
            CHECK.due("same again", x.setPart(part, 49999, 29), SetRepairs.NONE);
            CHECK.due("count(16)", x.count(16), 4);
            for (int other = 0; other < 6; other++) {
                CHECK.due("price of " + other, x.part(other, 0), other == part ? 49999 : 100);
                CHECK.due("lead of " + other, x.part(other, 1), other == part ? 29 : 2);
            }
            x.undo();
            CHECK.due("price after undo", x.part(part, 0), 50000);
        }
        SetRepairs x = new SetRepairs();
        CHECK.due("setPart(6, 1, 1)", x.setPart(6, 1, 1), SetRepairs.UNKNOWN);
        CHECK.due("setPart(-1, 1, 1)", x.setPart(-1, 1, 1), SetRepairs.UNKNOWN);
        CHECK.due("setPart(6, 0, 0)", x.setPart(6, 0, 0), SetRepairs.UNKNOWN);
    }

    private static void promise4OrdersStay() {
        CHECK.promise("promise 4");
        SetRepairs x = new SetRepairs();
        CHECK.due("order(0, 1)", x.order(0, 1), 2);
        x.setPart(0, 100, 9);
        CHECK.due("order(0, 2)", x.order(0, 2), 9);
        x.setPart(0, 100, 1);
        x.pass(1);
        CHECK.due("part(0, 2) on day 1", x.part(0, 2), 0);
        x.pass(1);
        CHECK.due("part(0, 2) on day 2", x.part(0, 2), 1);
        x.pass(6);
        CHECK.due("part(0, 2) on day 8", x.part(0, 2), 1);
        x.pass(1);
        CHECK.due("part(0, 2) on day 9", x.part(0, 2), 3);
    }

    private static void promise19Rate() {
        CHECK.promise("promise 19");
        SetRepairs x = new SetRepairs();
        int[] wrong = {-1, 4, 5, Integer.MIN_VALUE, Integer.MAX_VALUE};
        for (int which : wrong) {
            CHECK.dueFloat("rate(" + which + ")", x.rate(which), Float.NaN);
        }
        x.setRate(0, Desks.bits(1.7f));
        x.setRate(3, Desks.bits(0.1f));
        CHECK.dueFloat("rate(0)", x.rate(0), 1.7f);
        CHECK.dueFloat("rate(1)", x.rate(1), 1.1f);
        CHECK.dueFloat("rate(2)", x.rate(2), 25.5f);
        CHECK.dueFloat("rate(3)", x.rate(3), 0.1f);
        CHECK.due("count(16)", x.count(16), 2);
    }

    private static void promise20Number() {
        CHECK.promise("promise 20");
        SetRepairs x = new SetRepairs();
        int[] wrong = {-1, 5, 6, Integer.MIN_VALUE, Integer.MAX_VALUE};
        for (int which : wrong) {
            CHECK.due("number(" + which + ")", x.number(which), SetRepairs.UNKNOWN);
        }
        int[] values = {5, 777, 3, 33, 4};
        for (int which = 0; which < 5; which++) {
            x.setNumber(which, values[which]);
        }
        for (int which = 0; which < 5; which++) {
            CHECK.due("number(" + which + ")", x.number(which), values[which]);
        }
    }
}
