/** The edges that the document names under FLOATS, NUMBERS, PARTS and FAULTS AND SETS, sentence by sentence. */
public final class EdgesOfTermsTest {
    private static final Check CHECK = new Check("EdgesOfTermsTest");
    private static final int[] FAR = {-2, 7, 20, 100, Integer.MIN_VALUE, Integer.MAX_VALUE};
    private static final int[] NO_NUMBERS = {0x7f800000, 0xff800000, 0x7f800001, 0x7fc00000, 0x7fffffff, 0xffc00000, -1};

    public static void main(String[] args) {
        answersThe512thCall();
        startsAtDay0();
        roundsFloatsByThemselves();
        cutsFractions();
        takesBits();
        rates();
        numbers();
        knowsSixParts();
        price();
        lead();
        startsWithoutStock();
        ordersUpTo12();
        ordersOneToNine();
        ordersComeAfterTheLead();
        knowsFiveFaults();
        needs();
        setsUpTo20();
        numbersStayWhateverBecomesOfSets();
        setsStartWithNothing();
        costs();
        CHECK.end();
    }

    private static void answersThe512thCall() {
        CHECK.says("An object is used for at most 512 calls after it has been made");
        SetRepairs x = new SetRepairs();
        for (int call = 1; call <= 509; call += 2) {
            CHECK.due("call " + call + ", come(0)", x.come(0), 0);
            CHECK.due("call " + (call + 1) + ", undo()", x.undo(), 0);
        }
        CHECK.due("call 511, come(0)", x.come(0), 0);
        CHECK.due("call 512, estimate(0)", x.estimate(0), 9140);
    }

    private static void startsAtDay0() {
        CHECK.says("The day is 0 at first.");
        CHECK.due("count(0)", new SetRepairs().count(0), 0);
        CHECK.due("keep()", new SetRepairs().keep(), 0);
        CHECK.due("order(0, 1)", new SetRepairs().order(0, 1), 2);
    }

    /** In doubles each of these would be cut to one less. */
    private static void roundsFloatsByThemselves() {
        CHECK.says("Each operation with floats is done in floats (32 bits, IEEE 754), rounded by itself");
        SetRepairs x = Desks.approved(0);
        x.setRate(1, Desks.bits(1.3f));
        x.setRate(2, Desks.bits(0.7f));
        x.setRate(3, Desks.bits(0.7f));
        x.setPart(0, 50000, 2);
        x.put(0, 1);
        x.pass(1);
        CHECK.due("the bill: 9140 * 1.3f", x.set(0, 4), 11882);
        x.pass(17);
        CHECK.due("the storage fee: 10 * 0.7f", x.set(0, 8), 7);
        x = Desks.oneDone();
        x.setRate(3, Desks.bits(0.7f));
        x.setNumber(3, 1);
        x.pass(1);
        CHECK.due("the sale: 9140 * 0.7f", x.count(14), 6398);
        x = new SetRepairs();
        x.setPart(5, 21618, 2);
        x.setRate(0, 1068993012);
        x.setNumber(1, 13012);
        CHECK.due("the cost: 21618 * markup + 52048", x.costOf(4), 83046);
    }

    private static void cutsFractions() {
        CHECK.says("\"Cut\" is the conversion of a float to a whole number without its fraction.");
        SetRepairs x = new SetRepairs();
        x.setPart(5, 1, 2);
        x.setRate(0, Desks.bits(1.99f));
        CHECK.due("the cost: 18001.99", x.costOf(4), 18001);
        x = Desks.oneDone();
        x.setRate(2, Desks.bits(0.99f));
        x.pass(8);
        CHECK.due("the storage fee: 0.99", x.set(0, 8), 0);
        x.pass(1);
        CHECK.due("the storage fee: 1.98", x.set(0, 8), 1);
        x.setRate(3, Desks.bits(0.0001f));
        x.setNumber(3, 1);
        x.pass(1);
        CHECK.due("the sale: 0.914", x.count(14), 0);
        x = Desks.approved(0);
        x.setRate(1, Desks.bits(1.0001f));
        x.setPart(0, 50000, 2);
        x.put(0, 1);
        x.pass(1);
        CHECK.due("the bill: 9140.914", x.set(0, 4), 9140);
    }

    private static void takesBits() {
        CHECK.says("A float is given by its bits, as told by Float.floatToRawIntBits");
        SetRepairs x = new SetRepairs();
        CHECK.due("setRate(2, 1): the smallest float", x.setRate(2, 1), 1);
        CHECK.dueFloat("rate(2)", x.rate(2), Float.MIN_VALUE);
        CHECK.due("setRate(2, 0x7fffff)", x.setRate(2, 0x7fffff), 1);
        CHECK.dueFloat("rate(2)", x.rate(2), Float.intBitsToFloat(0x7fffff));
        CHECK.due("setRate(2, 0x800000)", x.setRate(2, 0x800000), 1);
        CHECK.dueFloat("rate(2)", x.rate(2), Float.MIN_NORMAL);
        CHECK.due("setRate(2, 0x3f800001)", x.setRate(2, 0x3f800001), 1);
        CHECK.dueFloat("rate(2)", x.rate(2), Math.nextUp(1.0f));
    }

    private static void rates() {
        CHECK.says("0 the markup of parts (1.0f to 3.0f; 1.4f)");
        rate(0, 1.0f, 3.0f, 1.4f);
        CHECK.says("1 the tolerance of estimates (1.0f to 2.0f; 1.1f)");
        rate(1, 1.0f, 2.0f, 1.1f);
        CHECK.says("2 the storage fee in cents a day (0.0f to 1000.0f; 25.5f)");
        rate(2, 0.0f, 1000.0f, 25.5f);
        CHECK.says("3 the share of a bill for which an unclaimed set is sold (0.0f to 1.0f; 0.6f)");
        rate(3, 0.0f, 1.0f, 0.6f);
    }

    private static void rate(int which, float lowest, float highest, float first) {
        SetRepairs x = new SetRepairs();
        CHECK.dueFloat("the first one", x.rate(which), first);
        dueRate(x, which, Math.nextDown(lowest), false);
        dueRate(x, which, Math.nextUp(highest), false);
        dueRate(x, which, -lowest, false);
        dueRate(x, which, -highest, false);
        for (int bits : NO_NUMBERS) {
            CHECK.due("setRate to the bits " + bits, x.setRate(which, bits), SetRepairs.BAD_VALUE);
        }
        CHECK.dueFloat("still the first one", x.rate(which), first);
        dueRate(x, which, lowest, true);
        dueRate(x, which, highest, true);
        dueRate(x, which, Math.nextUp(lowest), true);
        dueRate(x, which, Math.nextDown(highest), true);
        dueRate(x, which, first, true);
    }

    private static void dueRate(SetRepairs x, int which, float value, boolean isAllowed) {
        int due = isAllowed ? 1 : SetRepairs.BAD_VALUE;
        CHECK.due("setRate to " + value, x.setRate(which, Desks.bits(value)), due);
        if (isAllowed) {
            CHECK.dueFloat("rate then", x.rate(which), value);
        }
    }

    private static void numbers() {
        CHECK.says("0 the hours of a day (1 to 24; 8)");
        number(0, 1, 24, 8);
        CHECK.says("1 the wage of an hour in cents (100 to 20000; 4500)");
        number(1, 100, 20000, 4500);
        CHECK.says("2 the grace in days (0 to 60; 7)");
        number(2, 0, 60, 7);
        CHECK.says("3 the days until an unclaimed set is sold (1 to 400; 90)");
        number(3, 1, 400, 90);
        CHECK.says("4 the loaners (0 to 6; 2)");
        number(4, 0, 6, 2);
    }

    private static void number(int which, int lowest, int highest, int first) {
        SetRepairs x = new SetRepairs();
        CHECK.due("the first one", x.number(which), first);
        int[] wrong = {lowest - 1, highest + 1, -highest, -1, Integer.MIN_VALUE, Integer.MAX_VALUE};
        for (int value : wrong) {
            CHECK.due("setNumber to " + value, x.setNumber(which, value), SetRepairs.BAD_VALUE);
        }
        CHECK.due("still the first one", x.number(which), first);
        CHECK.due("setNumber to " + lowest, x.setNumber(which, lowest), first);
        CHECK.due("number then", x.number(which), lowest);
        CHECK.due("setNumber to " + highest, x.setNumber(which, highest), lowest);
        CHECK.due("number then", x.number(which), highest);
    }

    private static void knowsSixParts() {
        CHECK.says("There are 6 parts, numbered from 0");
        SetRepairs x = new SetRepairs();
        for (int part = 0; part < 6; part++) {
            CHECK.due("setPart(" + part + ", 1, 1)", x.setPart(part, 1, 1), 100);
            CHECK.due("order(" + part + ", 1)", x.order(part, 1), 1);
            CHECK.due("put(" + part + ", 1)", x.put(part, 1), 1);
            CHECK.due("part(" + part + ", 0)", x.part(part, 0), 1);
        }
        dueNoPart(x, -1);
        dueNoPart(x, 6);
        for (int part : FAR) {
            dueNoPart(x, part);
        }
    }

    private static void dueNoPart(SetRepairs x, int part) {
        CHECK.due("setPart(" + part + ", 1, 1)", x.setPart(part, 1, 1), SetRepairs.UNKNOWN);
        CHECK.due("order(" + part + ", 1)", x.order(part, 1), SetRepairs.UNKNOWN);
        CHECK.due("put(" + part + ", 1)", x.put(part, 1), SetRepairs.UNKNOWN);
        CHECK.due("part(" + part + ", 0)", x.part(part, 0), SetRepairs.UNKNOWN);
    }

    private static void price() {
        CHECK.says("a price (100 cents at first; 1 to 50000)");
        SetRepairs x = new SetRepairs();
        for (int part = 0; part < 6; part++) {
            CHECK.due("part(" + part + ", 0)", x.part(part, 0), 100);
        }
        int[] wrong = {0, 50001, -1, Integer.MIN_VALUE, Integer.MAX_VALUE};
        for (int price : wrong) {
            CHECK.due("setPart(0, " + price + ", 2)", x.setPart(0, price, 2), SetRepairs.BAD_VALUE);
        }
        CHECK.due("setPart(0, 1, 2)", x.setPart(0, 1, 2), 100);
        CHECK.due("setPart(0, 50000, 2)", x.setPart(0, 50000, 2), 1);
        CHECK.due("part(0, 0)", x.part(0, 0), 50000);
    }

    private static void lead() {
        CHECK.says("a lead (2 days at first; 1 to 30)");
        SetRepairs x = new SetRepairs();
        int[] wrong = {0, 31, -1, Integer.MIN_VALUE, Integer.MAX_VALUE};
        for (int lead : wrong) {
            CHECK.due("setPart(0, 100, " + lead + ")", x.setPart(0, 100, lead), SetRepairs.BAD_VALUE);
        }
        for (int part = 0; part < 6; part++) {
            CHECK.due("part(" + part + ", 1)", x.part(part, 1), 2);
        }
        CHECK.due("setPart(0, 100, 1)", x.setPart(0, 100, 1), 100);
        CHECK.due("part(0, 1)", x.part(0, 1), 1);
        CHECK.due("setPart(0, 100, 30)", x.setPart(0, 100, 30), 100);
        CHECK.due("part(0, 1)", x.part(0, 1), 30);
    }

    private static void startsWithoutStock() {
        CHECK.says("a stock and what is reserved of it (both 0 at first)");
        SetRepairs x = new SetRepairs();
        for (int part = 0; part < 6; part++) {
            CHECK.due("part(" + part + ", 2)", x.part(part, 2), 0);
            CHECK.due("part(" + part + ", 3)", x.part(part, 3), 0);
        }
    }

    private static void ordersUpTo12() {
        CHECK.says("There are at most 12 orders that have not come");
        SetRepairs x = new SetRepairs();
        x.setPart(1, 100, 1);
        x.order(1, 9);
        for (int i = 1; i < 12; i++) {
            CHECK.due("order " + (i + 1), x.order(0, 9), 2);
        }
        CHECK.due("count(10)", x.count(10), 12);
        CHECK.due("order 13", x.order(0, 9), SetRepairs.FULL);
        CHECK.due("order 13 of another part", x.order(1, 9), SetRepairs.FULL);
        CHECK.due("part(0, 4)", x.part(0, 4), 99);
        x.pass(1);
        CHECK.due("count(10) when one has come", x.count(10), 11);
        CHECK.due("order 13 then", x.order(1, 9), 2);
        CHECK.due("order 14 then", x.order(1, 9), SetRepairs.FULL);
        x.pass(1);
        CHECK.due("count(10) when all have come", x.count(10), 0);
        CHECK.due("part(0, 2)", x.part(0, 2), 99);
        CHECK.due("part(1, 2)", x.part(1, 2), 18);
    }

    private static void ordersOneToNine() {
        CHECK.says("how many (1 to 9)");
        SetRepairs x = new SetRepairs();
        int[] wrong = {0, 10, -1, Integer.MIN_VALUE, Integer.MAX_VALUE};
        for (int many : wrong) {
            CHECK.due("order(0, " + many + ")", x.order(0, many), SetRepairs.BAD_VALUE);
        }
        CHECK.due("order(0, 1)", x.order(0, 1), 2);
        CHECK.due("order(1, 9)", x.order(1, 9), 2);
        CHECK.due("part(0, 4)", x.part(0, 4), 1);
        CHECK.due("part(1, 4)", x.part(1, 4), 9);
    }

    private static void ordersComeAfterTheLead() {
        CHECK.says("the day at which it comes: the day at which it was made plus the lead then");
        int[] leads = {1, 2, 30};
        for (int lead : leads) {
            SetRepairs x = new SetRepairs();
            x.pass(5);
            x.setPart(3, 7, lead);
            CHECK.due("order(3, 1) at the lead " + lead, x.order(3, 1), 5 + lead);
            CHECK.due("part(3, 2) at once", x.part(3, 2), 0);
            x.setPart(3, 7, 3);
            if (lead > 1) {
                x.pass(lead - 1);
            }
            CHECK.due("part(3, 2) a day ahead", x.part(3, 2), 0);
            CHECK.due("part(3, 4) a day ahead", x.part(3, 4), 1);
            x.pass(1);
            CHECK.due("part(3, 2) at the day", x.part(3, 2), 1);
            CHECK.due("part(3, 4) at the day", x.part(3, 4), 0);
            x.pass(60);
            CHECK.due("part(3, 2) long after", x.part(3, 2), 1);
        }
        SetRepairs x = Desks.lastDay();
        x.setPart(3, 7, 30);
        CHECK.due("order(3, 1) on the last day", x.order(3, 1), 10029);
    }

    private static void knowsFiveFaults() {
        CHECK.says("There are 5 faults");
        SetRepairs x = new SetRepairs();
        for (int fault = 0; fault < 5; fault++) {
            CHECK.due("come(" + fault + ")", x.come(fault), fault);
            CHECK.dueTrue("costOf(" + fault + ") is no cost", x.costOf(fault) > 0);
        }
        CHECK.due("come(5)", x.come(5), SetRepairs.UNKNOWN);
        CHECK.due("come(-1)", x.come(-1), SetRepairs.UNKNOWN);
        CHECK.due("costOf(5)", x.costOf(5), SetRepairs.UNKNOWN);
        CHECK.due("costOf(-1)", x.costOf(-1), SetRepairs.UNKNOWN);
        for (int fault : FAR) {
            CHECK.due("come(" + fault + ")", x.come(fault), SetRepairs.UNKNOWN);
            CHECK.due("costOf(" + fault + ")", x.costOf(fault), SetRepairs.UNKNOWN);
        }
    }

    private static void needs() {
        CHECK.says("0 needs one part 0 and 2 hours");
        need(0, 2, 0);
        CHECK.says("1 one part 1 and 3 hours");
        need(1, 3, 1);
        CHECK.says("2 two parts 2 and 1 hour");
        need(2, 1, 2, 2);
        CHECK.says("3 one part 3, one part 4 and 5 hours");
        need(3, 5, 3, 4);
        CHECK.says("4 one part 5 and 4 hours");
        need(4, 4, 5);
    }

    /** With one part or one hour less it is not enough; all other parts do not help. */
    private static void need(int fault, int hours, int... parts) {
        SetRepairs x = Desks.approved(fault);
        x.setNumber(0, 1);
        for (int part = 0; part < 6; part++) {
            if (part != parts[0] && part != parts[parts.length - 1]) {
                x.put(part, 9);
            }
        }
        for (int part : parts) {
            CHECK.due("set(0, 6) ahead of the last part", x.set(0, 6), 2);
            x.put(part, 1);
        }
        CHECK.due("set(0, 6) with all parts", x.set(0, 6), 3);
        if (hours > 1) {
            CHECK.due("pass(" + (hours - 1) + ")", x.pass(hours - 1), 0);
        }
        CHECK.due("pass(1) for the last hour", x.pass(1), 1);
        for (int part = 0; part < 6; part++) {
            boolean isBuiltIn = part == parts[0] || part == parts[parts.length - 1];
            CHECK.due("part(" + part + ", 2) when done", x.part(part, 2), isBuiltIn ? 0 : 9);
        }
    }

    private static void setsUpTo20() {
        CHECK.says("There are at most 20 sets");
        SetRepairs x = new SetRepairs();
        for (int set = 0; set < 20; set++) {
            CHECK.due("estimate(" + set + ") ahead of it", x.estimate(set), SetRepairs.UNKNOWN);
            CHECK.due("come", x.come(4), set);
        }
        CHECK.due("come(4) at 20", x.come(4), SetRepairs.FULL);
        CHECK.due("estimate(19)", x.estimate(19), 18140);
        CHECK.due("estimate(20)", x.estimate(20), SetRepairs.UNKNOWN);
        CHECK.due("count(1)", x.count(1), 20);
    }

    private static void numbersStayWhateverBecomesOfSets() {
        CHECK.says("numbered from 0 in the order in which they came, whatever becomes of them");
        SetRepairs x = Desks.estimated(0, 1);
        x.answer(0, false);
        x.collect(0);
        x.answer(1, false);
        x.setNumber(3, 1);
        x.pass(1);
        CHECK.due("set(0, 6)", x.set(0, 6), 6);
        CHECK.due("set(1, 6)", x.set(1, 6), 7);
        for (int set = 2; set < 20; set++) {
            CHECK.due("come(2)", x.come(2), set);
        }
        CHECK.due("come(2) with two that are gone", x.come(2), SetRepairs.FULL);
        CHECK.due("set(0, 0)", x.set(0, 0), 0);
        CHECK.due("set(1, 0)", x.set(1, 0), 1);
        CHECK.due("count(1)", x.count(1), 20);
    }

    /** Also one that comes under a number that a set had ahead of an undo. */
    private static void setsStartWithNothing() {
        CHECK.says("an estimate (0 at first), hours that were worked on it (0 at first), a bill (0 at first)");
        SetRepairs x = new SetRepairs();
        x.keep();
        x.estimate(x.come(0));
        x.lend(0);
        x.answer(0, true);
        x.put(0, 1);
        x.pass(1);
        x.restore();
        x.pass(4);
        CHECK.due("come(3)", x.come(3), 0);
        int[] due = {3, 4, 0, 0, 0, 0, 0, SetRepairs.NONE, SetRepairs.NONE};
        for (int what = 0; what < due.length; what++) {
            CHECK.due("set(0, " + what + ")", x.set(0, what), due[what]);
        }
    }

    private static void costs() {
        CHECK.says("(all prices of its parts, added as whole numbers) * markup + hours * wage");
        SetRepairs x = new SetRepairs();
        x.setRate(0, Desks.bits(1.0f));
        x.setNumber(1, 100);
        for (int part = 0; part < 6; part++) {
            x.setPart(part, 1, 2);
        }
        int[] least = {201, 301, 102, 502, 401};
        for (int fault = 0; fault < 5; fault++) {
            CHECK.due("the least cost of " + fault, x.costOf(fault), least[fault]);
        }
        x.setRate(0, Desks.bits(3.0f));
        x.setNumber(1, 20000);
        for (int part = 0; part < 6; part++) {
            x.setPart(part, 50000, 2);
        }
        int[] most = {190000, 210000, 320000, 400000, 230000};
        for (int fault = 0; fault < 5; fault++) {
            CHECK.due("the greatest cost of " + fault, x.costOf(fault), most[fault]);
        }
    }
}
