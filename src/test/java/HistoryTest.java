/** Promises 16 to 18: undo, keep, restore. */
public final class HistoryTest {
    private static final Check CHECK = new Check("HistoryTest");

    public static void main(String[] args) {
        promise16FourStates();
        promise16EachAct();
        promise16NoActs();
        promise16Everything();
        promise16Fees();
        promise17Keep();
        promise18Restore();
        promise18OtherSets();
        promise18IsAnAct();
        CHECK.end();
    }

    private static void promise16FourStates() {
        CHECK.promise("promise 16");
        SetRepairs x = new SetRepairs();
        CHECK.due("undo()", x.undo(), SetRepairs.NONE);
        for (int i = 0; i < 6; i++) {
            x.come(i % 5);
            CHECK.due("count(16)", x.count(16), Math.min(4, i + 1));
        }
        for (int left = 3; left >= 0; left--) {
            CHECK.due("undo()", x.undo(), left);
            CHECK.due("count(16)", x.count(16), left);
            CHECK.due("count(1)", x.count(1), 2 + left);
        }
        CHECK.due("undo()", x.undo(), SetRepairs.NONE);
        CHECK.due("count(1)", x.count(1), 2);
        x.come(4);
        x.come(3);
        CHECK.due("undo()", x.undo(), 1);
        CHECK.due("set(2, 0)", x.set(2, 0), 4);
        CHECK.due("undo()", x.undo(), 0);
        CHECK.due("count(1)", x.count(1), 2);
    }

    private static void promise16EachAct() {
        CHECK.promise("promise 16");
        for (int act = 0; act < 13; act++) {
            SetRepairs x = Desks.estimated(0, 0, 0);
            x.answer(2, false);
            x.come(1);
            x.keep();
            Desks.typeAll(x, "1n");
            for (int i = 0; i < 4; i++) {
                x.undo();
            }
            x.restore();
            String before = Desks.told(x);
            doAct(x, act);
            CHECK.due("count(16) behind act " + act, x.count(16), 2);
            CHECK.due("undo() behind act " + act, x.undo(), 1);
            CHECK.dueTrue("undo() left other things behind act " + act, before.equals(Desks.told(x)));
        }
    }

    private static void doAct(SetRepairs x, int act) {
        switch (act) {
            case 0: x.setRate(0, Desks.bits(1.0f)); break;
            case 1: x.setNumber(0, 1); break;
            case 2: x.setPart(0, 1, 1); break;
            case 3: x.order(0, 1); break;
            case 4: x.put(0, 1); break;
            case 5: x.come(0); break;
            case 6: x.estimate(3); break;
            case 7: x.answer(0, true); break;
            case 8: x.readAnswers(); break;
            case 9: x.lend(0); break;
            case 10: x.collect(2); break;
            case 11: x.pass(3); break;
            default: x.restore(); break;
        }
    }

    private static void promise16NoActs() {
        CHECK.promise("promise 16");
        SetRepairs x = new SetRepairs();
        x.type('0');
        x.clearText();
        x.keep();
        x.undo();
        x.rate(0);
        x.number(0);
        x.part(0, 0);
        x.costOf(0);
        x.count(0);
        x.meanDays();
        CHECK.due("count(16)", x.count(16), 0);
        x.come(0);
        x.setRate(0, Desks.bits(1.4f));
        x.setNumber(0, 8);
        x.setPart(0, 100, 2);
        x.setRate(0, 0);
        x.setNumber(9, 8);
        x.order(0, 10);
        x.put(9, 1);
        x.come(5);
        x.estimate(1);
        x.answer(0, true);
        x.readAnswers();
        x.lend(1);
        x.collect(0);
        x.pass(0);
        x.set(0, 0);
        x.waitsFor(0);
        x.lacks(0);
        x.doneIn(0);
        CHECK.due("count(16)", x.count(16), 1);
    }

    private static void promise16Everything() {
        CHECK.promise("promise 16");
        SetRepairs x = Desks.approved(0, 3);
        x.lend(0);
        x.setRate(2, Desks.bits(3.5f));
        x.put(0, 1);
        x.order(3, 4);
        x.pass(1);
        x.collect(0);
        x.undo();
        CHECK.due("set(0, 6)", x.set(0, 6), 4);
        CHECK.due("count(12)", x.count(12), 0);
        CHECK.due("set(0, 5)", x.set(0, 5), 1);
        x.undo();
        CHECK.due("count(0)", x.count(0), 0);
        CHECK.due("set(0, 6)", x.set(0, 6), 3);
        CHECK.due("set(0, 4)", x.set(0, 4), 0);
        CHECK.due("set(0, 3)", x.set(0, 3), 0);
        CHECK.due("count(15)", x.count(15), 0);
        CHECK.dueFloat("meanDays()", x.meanDays(), Float.NaN);
        CHECK.due("part(0, 2)", x.part(0, 2), 1);
        CHECK.due("part(0, 3)", x.part(0, 3), 1);
        x.undo();
        CHECK.due("count(10)", x.count(10), 0);
        CHECK.due("part(3, 4)", x.part(3, 4), 0);
        CHECK.due("undo()", x.undo(), 0);
        CHECK.due("part(0, 2)", x.part(0, 2), 0);
        CHECK.due("part(0, 3)", x.part(0, 3), 0);
        CHECK.due("set(0, 6)", x.set(0, 6), 2);
        CHECK.due("undo()", x.undo(), SetRepairs.NONE);
        CHECK.dueFloat("rate(2)", x.rate(2), 3.5f);
        x.order(4, 2);
        CHECK.due("part(4, 4)", x.part(4, 4), 2);
        CHECK.due("part(3, 4)", x.part(3, 4), 0);
    }

    private static void promise16Fees() {
        CHECK.promise("promise 16");
        SetRepairs x = Desks.oneDone();
        x.setNumber(3, 400);
        x.pass(60);
        x.collect(0);
        CHECK.due("count(12)", x.count(12), 9140);
        CHECK.due("count(13)", x.count(13), 1351);
        x.undo();
        CHECK.due("count(12) after undo", x.count(12), 0);
        CHECK.due("count(13) after undo", x.count(13), 0);
        CHECK.due("collect(0) again", x.collect(0), 10491);
    }

    private static void promise17Keep() {
        CHECK.promise("promise 17");
        SetRepairs x = new SetRepairs();
        CHECK.due("keep()", x.keep(), 0);
        CHECK.due("count(16)", x.count(16), 0);
        x.come(1);
        x.pass(5);
        CHECK.due("keep()", x.keep(), 5);
        x.pass(7);
        x.come(2);
        CHECK.due("restore()", x.restore(), 5);
        CHECK.due("count(1)", x.count(1), 1);
        x.undo();
        CHECK.due("count(1) after undo", x.count(1), 2);
        x.undo();
        x.undo();
        CHECK.due("restore() of what undo leaves", x.restore(), 5);
    }

    private static void promise18Restore() {
        CHECK.promise("promise 18");
        SetRepairs x = Desks.estimated(0);
        CHECK.due("restore()", x.restore(), SetRepairs.NONE);
        CHECK.due("count(16)", x.count(16), 2);
        x.setRate(1, Desks.bits(1.25f));
        x.setNumber(2, 3);
        x.setPart(2, 55, 6);
        x.order(2, 3);
        x.lend(0);
        x.keep();
        x.setRate(1, Desks.bits(1.5f));
        x.setNumber(2, 4);
        x.setPart(2, 56, 7);
        x.order(2, 3);
        x.put(1, 2);
        x.answer(0, false);
        x.pass(2);
        x.collect(0);
        for (int time = 0; time < 2; time++) {
            CHECK.due("restore()", x.restore(), 0);
            CHECK.dueFloat("rate(1)", x.rate(1), 1.25f);
            CHECK.due("number(2)", x.number(2), 3);
            CHECK.due("part(2, 0)", x.part(2, 0), 55);
            CHECK.due("part(2, 1)", x.part(2, 1), 6);
            CHECK.due("part(2, 4)", x.part(2, 4), 3);
            CHECK.due("part(1, 2)", x.part(1, 2), 0);
            CHECK.due("set(0, 6)", x.set(0, 6), 1);
            CHECK.due("set(0, 5)", x.set(0, 5), 1);
            CHECK.due("count(0)", x.count(0), 0);
            CHECK.due("count(10)", x.count(10), 1);
            x.pass(9);
            CHECK.due("part(2, 2)", x.part(2, 2), 3);
        }
    }

    private static void promise18OtherSets() {
        CHECK.promise("promise 18");
        SetRepairs x = new SetRepairs();
        x.pass(2);
        x.come(3);
        x.keep();
        x.undo();
        x.undo();
        CHECK.due("come(1)", x.come(1), 0);
        CHECK.due("come(2)", x.come(2), 1);
        CHECK.due("restore()", x.restore(), 2);
        CHECK.due("set(0, 0)", x.set(0, 0), 3);
        CHECK.due("set(0, 1)", x.set(0, 1), 2);
        CHECK.due("set(1, 0)", x.set(1, 0), SetRepairs.UNKNOWN);
        CHECK.due("count(1)", x.count(1), 1);
    }

    private static void promise18IsAnAct() {
        CHECK.promise("promise 18");
        SetRepairs x = new SetRepairs();
        x.keep();
        x.pass(3);
        CHECK.due("restore()", x.restore(), 0);
        CHECK.due("count(16)", x.count(16), 2);
        CHECK.due("restore() of the same", x.restore(), 0);
        CHECK.due("count(16)", x.count(16), 3);
        CHECK.due("undo()", x.undo(), 2);
        CHECK.due("count(0)", x.count(0), 0);
        CHECK.due("undo()", x.undo(), 1);
        CHECK.due("count(0)", x.count(0), 3);
        CHECK.due("restore() once more", x.restore(), 0);
    }
}
