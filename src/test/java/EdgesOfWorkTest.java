/** The edges that the document names under WHAT IS DONE, sentence by sentence. */
public final class EdgesOfWorkTest {
    private static final Check CHECK = new Check("EdgesOfWorkTest");

    public static void main(String[] args) {
        estimatesAsPricesAreNow();
        reservesBehindAnApproval();
        reservesWhenStockGrows();
        reservesForLoanersFirst();
        reservesByNumbers();
        reservesForAllPartsOrNone();
        reservedStockIsNotFree();
        daysGrowFirst();
        ordersComeInTheirOrder();
        hoursGoToLoanersFirst();
        hoursThatAreNeededOrLeft();
        isDoneWithItsLastHour();
        billKeepsToTheEstimate();
        billIsOfTheDayOfBeingDone();
        refusedIsReadyAtOnce();
        doneIsReadyAtOnce();
        feeWithinTheGrace();
        feeOfTheLeastAndTheGreatestGrace();
        paysBillAndFee();
        collectedLoanerComesBack();
        sellsAtTheNumber();
        sellsBeyondTheNumber();
        sellsAtTheEndOfEachDay();
        salesBringAShare();
        refusedSalesBringNothing();
        soldLoanerComesBack();
        lendsUntilDone();
        lendsIfOneIsThere();
        CHECK.end();
    }

    private static void estimatesAsPricesAreNow() {
        CHECK.says("its estimate is the cost of its fault as prices are now; it is estimated");
        SetRepairs x = new SetRepairs();
        x.come(0);
        x.come(0);
        x.setPart(0, 1, 2);
        CHECK.due("estimate(0)", x.estimate(0), 9001);
        x.setPart(0, 50000, 2);
        CHECK.due("estimate(1)", x.estimate(1), 79000);
        CHECK.due("set(0, 2)", x.set(0, 2), 9001);
        CHECK.due("set(0, 6)", x.set(0, 6), 1);
    }

    private static void reservesBehindAnApproval() {
        CHECK.says("Behind each approval, and each time when stock grows, parts are reserved");
        SetRepairs x = Desks.estimated(0, 0, 0);
        x.put(0, 1);
        CHECK.due("part(0, 3) ahead of an approval", x.part(0, 3), 0);
        CHECK.due("answer(2, false)", x.answer(2, false), 5);
        CHECK.due("part(0, 3) behind a refusal", x.part(0, 3), 0);
        CHECK.due("answer(1, true) with a part", x.answer(1, true), 3);
        CHECK.due("part(0, 3)", x.part(0, 3), 1);
        CHECK.due("answer(0, true) without a part", x.answer(0, true), 2);
        CHECK.due("part(0, 3)", x.part(0, 3), 1);
    }

    private static void reservesWhenStockGrows() {
        CHECK.says("each time when stock grows");
        SetRepairs x = Desks.approved(0, 4);
        x.order(0, 1);
        x.put(5, 1);
        CHECK.due("set(1, 6) behind put", x.set(1, 6), 3);
        x.pass(1);
        CHECK.due("set(0, 6) ahead of the order", x.set(0, 6), 2);
        x.pass(1);
        CHECK.due("set(0, 6) behind the order", x.set(0, 6), 4);
    }

    private static void reservesForLoanersFirst() {
        CHECK.says("the approved sets are gone through, those with a loaner first");
        SetRepairs x = Desks.approved(0, 0, 0);
        x.lend(2);
        x.put(0, 1);
        CHECK.due("set(2, 6) with a loaner", x.set(2, 6), 3);
        CHECK.due("set(0, 6)", x.set(0, 6), 2);
        CHECK.due("set(1, 6)", x.set(1, 6), 2);
        x.lend(1);
        x.put(0, 1);
        CHECK.due("set(1, 6) with a loaner", x.set(1, 6), 3);
        CHECK.due("set(0, 6)", x.set(0, 6), 2);
        x.put(0, 1);
        CHECK.due("set(0, 6) as the last one", x.set(0, 6), 3);
    }

    private static void reservesByNumbers() {
        CHECK.says("those with a loaner first, then by their numbers; if for all parts");
        SetRepairs x = Desks.estimated(1, 1, 1, 1);
        x.lend(3);
        x.lend(2);
        for (int set = 3; set >= 0; set--) {
            x.answer(set, true);
        }
        int[] turn = {2, 3, 0, 1};
        for (int set : turn) {
            CHECK.due("set(" + set + ", 6) ahead of its turn", x.set(set, 6), 2);
            x.put(1, 1);
            CHECK.due("set(" + set + ", 6) at its turn", x.set(set, 6), 3);
        }
        CHECK.due("part(1, 3)", x.part(1, 3), 4);
    }

    private static void reservesForAllPartsOrNone() {
        CHECK.says("if for all parts of the set there is stock that is not reserved, they are reserved");
        SetRepairs x = Desks.approved(3, 2);
        x.put(3, 9);
        x.put(2, 1);
        CHECK.due("set(0, 6) with one of two parts", x.set(0, 6), 2);
        CHECK.due("part(3, 3)", x.part(3, 3), 0);
        CHECK.due("set(1, 6) with one of two pieces", x.set(1, 6), 2);
        CHECK.due("part(2, 3)", x.part(2, 3), 0);
        x.put(4, 1);
        x.put(2, 1);
        CHECK.due("set(0, 6) with both parts", x.set(0, 6), 3);
        CHECK.due("part(3, 3)", x.part(3, 3), 1);
        CHECK.due("part(4, 3)", x.part(4, 3), 1);
        CHECK.due("set(1, 6) with both pieces", x.set(1, 6), 3);
        CHECK.due("part(2, 3)", x.part(2, 3), 2);
    }

    private static void reservedStockIsNotFree() {
        CHECK.says("there is stock that is not reserved");
        SetRepairs x = Desks.approved(2, 2);
        x.put(2, 3);
        CHECK.due("set(0, 6)", x.set(0, 6), 3);
        CHECK.due("set(1, 6) with 3 in stock, 2 reserved", x.set(1, 6), 2);
        x.put(2, 1);
        CHECK.due("set(1, 6) with 4 in stock, 2 reserved", x.set(1, 6), 3);
        CHECK.due("part(2, 2)", x.part(2, 2), 4);
        CHECK.due("part(2, 3)", x.part(2, 3), 4);
    }

    private static void daysGrowFirst() {
        CHECK.says("first the day grows by 1; then orders that come at this day come");
        SetRepairs x = Desks.approved(0, 1);
        x.setPart(0, 100, 1);
        x.order(0, 1);
        CHECK.due("pass(1): comes and is worked on in a day", x.pass(1), 1);
        CHECK.due("set(0, 7)", x.set(0, 7), 1);
        x.order(1, 1);
        CHECK.due("pass(2)", x.pass(2), 1);
        CHECK.due("set(1, 7)", x.set(1, 7), 3);
        CHECK.due("count(0)", x.count(0), 3);
    }

    /** Orders of a day, and ones of later days that were made ahead of them and between them. */
    private static void ordersComeInTheirOrder() {
        CHECK.says("in the order in which they were made (the parts of each one come to the stock");
        SetRepairs x = Desks.approved(3, 2, 2, 4);
        x.setPart(2, 100, 3);
        x.order(2, 2);
        x.setPart(2, 100, 2);
        x.order(4, 1);
        x.order(2, 1);
        x.setPart(5, 100, 4);
        x.order(5, 8);
        x.order(3, 1);
        x.order(2, 1);
        CHECK.due("pass(2)", x.pass(2), 2);
        CHECK.due("set(0, 6)", x.set(0, 6), 4);
        CHECK.due("set(1, 6)", x.set(1, 6), 4);
        CHECK.due("set(2, 6)", x.set(2, 6), 2);
        CHECK.due("count(10)", x.count(10), 2);
        CHECK.due("part(2, 4)", x.part(2, 4), 2);
        CHECK.due("part(5, 4)", x.part(5, 4), 8);
        CHECK.due("pass(1)", x.pass(1), 1);
        CHECK.due("set(2, 6)", x.set(2, 6), 4);
        CHECK.due("pass(1)", x.pass(1), 1);
        CHECK.due("part(5, 2)", x.part(5, 2), 7);
    }

    private static void hoursGoToLoanersFirst() {
        CHECK.says("then the hours of the day are worked on sets in work: those with a loaner first, then by their numbers");
        SetRepairs x = Desks.approved(0, 0, 0, 0);
        x.put(0, 4);
        x.setNumber(0, 2);
        x.lend(3);
        x.lend(2);
        int[] turn = {2, 3, 0, 1};
        for (int set : turn) {
            CHECK.due("set(" + set + ", 3) ahead of its turn", x.set(set, 3), 0);
            CHECK.due("pass(1)", x.pass(1), 1);
            CHECK.due("set(" + set + ", 6) at its turn", x.set(set, 6), 4);
        }
    }

    private static void hoursThatAreNeededOrLeft() {
        CHECK.says("on each one as many hours as it still needs, or as are left");
        SetRepairs x = Desks.approved(3, 4, 2);
        x.put(3, 1);
        x.put(4, 1);
        x.put(5, 1);
        x.put(2, 2);
        x.setNumber(0, 5);
        CHECK.due("pass(1): no hour is left", x.pass(1), 1);
        CHECK.due("set(1, 3)", x.set(1, 3), 0);
        x.undo();
        x.setNumber(0, 6);
        CHECK.due("pass(1): an hour is left", x.pass(1), 1);
        CHECK.due("set(1, 3)", x.set(1, 3), 1);
        CHECK.due("set(2, 3)", x.set(2, 3), 0);
        x.setNumber(0, 3);
        CHECK.due("pass(1): all that it still needs", x.pass(1), 1);
        CHECK.due("set(1, 3)", x.set(1, 3), 4);
        CHECK.due("set(1, 6)", x.set(1, 6), 4);
        CHECK.due("set(2, 3)", x.set(2, 3), 0);
        x.undo();
        x.setNumber(0, 24);
        CHECK.due("pass(1): more than all need", x.pass(1), 2);
        CHECK.due("set(2, 3)", x.set(2, 3), 1);
        CHECK.due("pass(1): hours are not kept", x.pass(1), 0);
    }

    private static void isDoneWithItsLastHour() {
        CHECK.says("When all its hours were worked, it is done: its parts leave the stock, they are not reserved any more");
        SetRepairs x = Desks.approved(2, 3);
        x.put(2, 3);
        x.put(3, 2);
        x.put(4, 1);
        x.setNumber(0, 5);
        CHECK.due("pass(1)", x.pass(1), 1);
        CHECK.due("part(2, 2)", x.part(2, 2), 1);
        CHECK.due("part(2, 3)", x.part(2, 3), 0);
        CHECK.due("set(1, 3) an hour ahead", x.set(1, 3), 4);
        CHECK.due("part(3, 2) an hour ahead", x.part(3, 2), 2);
        CHECK.due("part(3, 3) an hour ahead", x.part(3, 3), 1);
        CHECK.due("pass(1)", x.pass(1), 1);
        CHECK.due("part(3, 2)", x.part(3, 2), 1);
        CHECK.due("part(3, 3)", x.part(3, 3), 0);
        CHECK.due("part(4, 2)", x.part(4, 2), 0);
        CHECK.due("part(4, 3)", x.part(4, 3), 0);
    }

    /** An estimate of 9100 at the markup 1.0f, and a tolerance that lets the bill grow to 10010. */
    private static void billKeepsToTheEstimate() {
        CHECK.says("its bill is the lesser one of the cost of its fault as prices are now and of estimate * tolerance, cut");
        int[] prices = {1, 100, 1009, 1010, 1011, 50000};
        int[] bills = {9001, 9100, 10009, 10010, 10010, 10010};
        for (int i = 0; i < prices.length; i++) {
            SetRepairs x = new SetRepairs();
            x.setRate(0, Desks.bits(1.0f));
            x.estimate(x.come(0));
            x.answer(0, true);
            x.put(0, 1);
            x.setPart(0, prices[i], 2);
            x.pass(1);
            CHECK.due("the bill at the price " + prices[i], x.set(0, 4), bills[i]);
            CHECK.due("the estimate", x.set(0, 2), 9100);
        }
        SetRepairs x = Desks.approved(0);
        x.setRate(1, Desks.bits(1.0f));
        x.setPart(0, 101, 2);
        x.put(0, 1);
        x.pass(1);
        CHECK.due("the bill at the least tolerance", x.set(0, 4), 9140);
        x = Desks.approved(0);
        x.setRate(1, Desks.bits(2.0f));
        x.setPart(0, 50000, 2);
        x.put(0, 1);
        x.pass(1);
        CHECK.due("the bill at the greatest tolerance", x.set(0, 4), 18280);
    }

    private static void billIsOfTheDayOfBeingDone() {
        CHECK.says("its day of being done is this day");
        SetRepairs x = Desks.approved(0);
        x.put(0, 1);
        x.setNumber(0, 1);
        x.pass(1);
        x.setPart(0, 50, 2);
        CHECK.due("set(0, 4) when half done", x.set(0, 4), 0);
        CHECK.due("set(0, 7) when half done", x.set(0, 7), SetRepairs.NONE);
        x.pass(1);
        x.setPart(0, 10, 2);
        x.pass(1);
        CHECK.due("set(0, 4)", x.set(0, 4), 9070);
        CHECK.due("set(0, 7)", x.set(0, 7), 2);
    }

    private static void refusedIsReadyAtOnce() {
        CHECK.says("A set that is refused is ready at once, with a bill of 0");
        SetRepairs x = Desks.estimated(3);
        x.pass(9);
        x.answer(0, false);
        CHECK.due("set(0, 7)", x.set(0, 7), 9);
        CHECK.due("set(0, 4)", x.set(0, 4), 0);
        CHECK.due("set(0, 8)", x.set(0, 8), 0);
        CHECK.due("collect(0)", x.collect(0), 0);
    }

    private static void doneIsReadyAtOnce() {
        CHECK.says("a set that is done is ready from its day of being done on");
        SetRepairs x = Desks.oneDone();
        CHECK.due("set(0, 7)", x.set(0, 7), 1);
        CHECK.due("set(0, 8)", x.set(0, 8), 0);
        CHECK.due("collect(0) at this day", x.collect(0), 9140);
    }

    private static void feeWithinTheGrace() {
        CHECK.says("(days that it was ready beyond the grace) * fee, cut (0 within the grace)");
        SetRepairs x = Desks.oneDone();
        x.setRate(2, Desks.bits(1000.0f));
        x.pass(6);
        CHECK.due("a day ahead of the grace's end", x.set(0, 8), 0);
        x.pass(1);
        CHECK.due("at the grace's end", x.set(0, 8), 0);
        x.pass(1);
        CHECK.due("a day beyond the grace", x.set(0, 8), 1000);
        x.pass(1);
        CHECK.due("two days beyond the grace", x.set(0, 8), 2000);
        x.setNumber(2, 9);
        CHECK.due("in a longer grace", x.set(0, 8), 0);
        x.setNumber(2, 8);
        CHECK.due("a day beyond this grace", x.set(0, 8), 1000);
    }

    private static void feeOfTheLeastAndTheGreatestGrace() {
        CHECK.says("The storage fee of a ready set is (days that it was ready beyond the grace) * fee");
        SetRepairs x = Desks.inState(5);
        x.setRate(2, Desks.bits(1.0f));
        x.setNumber(2, 0);
        x.setNumber(3, 400);
        CHECK.due("no grace, at once", x.set(0, 8), 0);
        x.pass(1);
        CHECK.due("no grace, a day", x.set(0, 8), 1);
        x.setNumber(2, 60);
        x.pass(59);
        CHECK.due("a grace of 60, 60 days", x.set(0, 8), 0);
        x.pass(1);
        CHECK.due("a grace of 60, 61 days", x.set(0, 8), 1);
        x.setRate(2, 0);
        CHECK.due("no fee, 61 days", x.set(0, 8), 0);
    }

    private static void paysBillAndFee() {
        CHECK.says("When a ready set is collected, its bill and its storage fee are paid");
        SetRepairs x = Desks.oneDone();
        x.pass(8);
        CHECK.due("collect(0)", x.collect(0), 9165);
        CHECK.due("count(12)", x.count(12), 9140);
        CHECK.due("count(13)", x.count(13), 25);
        x = Desks.inState(5);
        x.pass(9);
        CHECK.due("collect(0) when refused", x.collect(0), 51);
        CHECK.due("count(12)", x.count(12), 0);
        CHECK.due("count(13)", x.count(13), 51);
    }

    private static void collectedLoanerComesBack() {
        CHECK.says("are paid; a loaner comes back");
        SetRepairs x = Desks.estimated(0, 1);
        x.lend(0);
        x.lend(1);
        x.answer(0, false);
        CHECK.due("count(11) when refused", x.count(11), 0);
        x.collect(0);
        CHECK.due("count(11) when collected", x.count(11), 1);
        CHECK.due("set(0, 5)", x.set(0, 5), 0);
        CHECK.due("set(1, 5)", x.set(1, 5), 1);
        x = Desks.inState(4);
        x.collect(0);
        CHECK.due("count(11) where none was lent", x.count(11), 2);
    }

    private static void sellsAtTheNumber() {
        CHECK.says("sets that were ready for as many days as the number 3 tells");
        SetRepairs x = Desks.estimated(0, 1);
        x.setNumber(3, 400);
        x.answer(0, false);
        x.pass(1);
        x.answer(1, false);
        for (int i = 0; i < 6; i++) {
            x.pass(60);
        }
        x.pass(38);
        CHECK.due("set(0, 6) ready for 399 days", x.set(0, 6), 5);
        x.pass(1);
        CHECK.due("set(0, 6) ready for 400 days", x.set(0, 6), 7);
        CHECK.due("set(1, 6) ready for 399 days", x.set(1, 6), 5);
        x.pass(1);
        CHECK.due("set(1, 6) ready for 400 days", x.set(1, 6), 7);
        x = Desks.approved(0);
        x.setNumber(3, 1);
        x.put(0, 1);
        x.pass(1);
        CHECK.due("set(0, 6) ready for 0 days", x.set(0, 6), 4);
        x.pass(1);
        CHECK.due("set(0, 6) ready for 1 day", x.set(0, 6), 7);
    }

    private static void sellsBeyondTheNumber() {
        CHECK.says("as the number 3 tells, or more, are sold");
        SetRepairs x = Desks.inState(5);
        x.pass(20);
        x.setNumber(3, 5);
        CHECK.due("set(0, 6) ahead of a day's end", x.set(0, 6), 5);
        CHECK.due("set(0, 8) ahead of a day's end", x.set(0, 8), 331);
        x.pass(1);
        CHECK.due("set(0, 6) ready for 21 days", x.set(0, 6), 7);
    }

    private static void sellsAtTheEndOfEachDay() {
        CHECK.says("At the end of each day that passes");
        SetRepairs x = Desks.approved(0, 0);
        x.lend(1);
        x.setNumber(3, 3);
        x.put(0, 1);
        x.order(0, 1);
        x.keep();
        CHECK.due("pass(5)", x.pass(5), 2);
        CHECK.due("set(1, 6): ready at day 1, sold at day 4", x.set(1, 6), 7);
        CHECK.due("set(0, 6): ready at day 2, sold at day 5", x.set(0, 6), 7);
        x.restore();
        x.pass(4);
        CHECK.due("set(1, 6) at day 4", x.set(1, 6), 7);
        CHECK.due("set(0, 6) at day 4", x.set(0, 6), 4);
        x.restore();
        for (int day = 1; day <= 3; day++) {
            x.pass(1);
        }
        CHECK.due("set(1, 6) at day 3", x.set(1, 6), 4);
        CHECK.due("collect(1) at day 3", x.collect(1), 9140);
        x.pass(1);
        CHECK.due("set(1, 6), collected ahead of its sale", x.set(1, 6), 6);
        CHECK.due("count(14)", x.count(14), 0);
    }

    private static void salesBringAShare() {
        CHECK.says("a set with a bill above 0 brings bill * share, cut");
        float[] shares = {0.0f, 0.0001f, 0.5f, Math.nextDown(1.0f), 1.0f};
        int[] due = {0, 0, 4570, 9139, 9140};
        for (int i = 0; i < shares.length; i++) {
            SetRepairs x = Desks.oneDone();
            x.setRate(3, Desks.bits(shares[i]));
            x.setNumber(3, 1);
            x.pass(1);
            CHECK.due("set(0, 6)", x.set(0, 6), 7);
            CHECK.due("count(14) at the share " + shares[i], x.count(14), due[i]);
            CHECK.due("count(12)", x.count(12), 0);
            CHECK.due("count(13)", x.count(13), 0);
        }
    }

    private static void refusedSalesBringNothing() {
        CHECK.says("one that was refused brings nothing");
        SetRepairs x = Desks.inState(5);
        x.setRate(3, Desks.bits(1.0f));
        x.setNumber(3, 1);
        x.pass(1);
        CHECK.due("set(0, 6)", x.set(0, 6), 7);
        CHECK.due("count(14)", x.count(14), 0);
        CHECK.due("count(13)", x.count(13), 0);
    }

    private static void soldLoanerComesBack() {
        CHECK.says("brings nothing; a loaner comes back");
        SetRepairs x = Desks.estimated(0, 0, 0);
        x.lend(0);
        x.lend(1);
        x.answer(0, false);
        x.answer(1, true);
        x.setNumber(3, 1);
        x.put(0, 1);
        x.pass(1);
        CHECK.due("set(0, 6)", x.set(0, 6), 7);
        CHECK.due("count(11) with the refused one sold", x.count(11), 1);
        x.pass(1);
        CHECK.due("set(1, 6)", x.set(1, 6), 7);
        CHECK.due("count(11) with the done one sold", x.count(11), 2);
        CHECK.due("set(1, 5)", x.set(1, 5), 0);
        CHECK.due("lend(2)", x.lend(2), 1);
    }

    private static void lendsUntilDone() {
        CHECK.says("A loaner can be lent for a set that is in, estimated, approved or in work");
        for (int state = 0; state < 8; state++) {
            SetRepairs x = Desks.inState(state);
            CHECK.due("set(0, 6)", x.set(0, 6), state);
            CHECK.due("lend(0) in the state " + state, x.lend(0), state < 4 ? 1 : SetRepairs.NOT_POSSIBLE);
            CHECK.due("set(0, 5) then", x.set(0, 5), state < 4 ? 1 : 0);
        }
    }

    private static void lendsIfOneIsThere() {
        CHECK.says("if one is there");
        SetRepairs x = Desks.estimated(0, 0, 0, 0, 0, 0, 0);
        x.setNumber(4, 0);
        CHECK.due("lend(0) without loaners", x.lend(0), SetRepairs.FULL);
        x.setNumber(4, 6);
        for (int set = 0; set < 6; set++) {
            CHECK.due("lend(" + set + ")", x.lend(set), 5 - set);
        }
        CHECK.due("lend(6) with all lent", x.lend(6), SetRepairs.FULL);
        x.answer(3, false);
        CHECK.due("lend(6) ahead of one coming back", x.lend(6), SetRepairs.FULL);
        x.collect(3);
        CHECK.due("lend(6) with one back", x.lend(6), 0);
    }
}
