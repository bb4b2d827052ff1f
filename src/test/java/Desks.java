/** Desks that tests start from. */
final class Desks {
    private Desks() {
    }

    /** Sets of these faults came, and were estimated. */
    static SetRepairs estimated(int... faults) {
        SetRepairs x = new SetRepairs();
        for (int fault : faults) {
            x.estimate(x.come(fault));
        }
        return x;
    }

    /** Sets of these faults came, were estimated and approved, with no part in stock. */
    static SetRepairs approved(int... faults) {
        SetRepairs x = estimated(faults);
        for (int set = 0; set < faults.length; set++) {
            x.answer(set, true);
        }
        return x;
    }

    /** Set 0 with fault 0 (estimate 9140), done on day 1. */
    static SetRepairs oneDone() {
        SetRepairs x = approved(0);
        x.put(0, 1);
        x.pass(1);
        return x;
    }

    /** A new desk at the last day, 9999. */
    static SetRepairs lastDay() {
        SetRepairs x = new SetRepairs();
        for (int i = 0; i < 166; i++) {
            x.pass(60);
        }
        x.pass(39);
        return x;
    }

    /** Set 0, with fault 0, is in this state; the day is 0, or 1 where it was done, or 2 where it was sold. */
    static SetRepairs inState(int state) {
        SetRepairs x = new SetRepairs();
        x.come(0);
        if (state >= 1) {
            x.estimate(0);
        }
        if (state == 5) {
            x.answer(0, false);
        } else if (state >= 2) {
            x.answer(0, true);
        }
        if (state == 3 || state == 4 || state >= 6) {
            x.put(0, 1);
        }
        if (state == 4 || state >= 6) {
            x.pass(1);
        }
        if (state == 6) {
            x.collect(0);
        } else if (state == 7) {
            x.setNumber(3, 1);
            x.pass(1);
        }
        return x;
    }

    static void typeAll(SetRepairs x, String text) {
        for (int i = 0; i < text.length(); i++) {
            x.type(text.charAt(i));
        }
    }

    static int readAnswers(SetRepairs x, String text) {
        x.clearText();
        typeAll(x, text);
        return x.readAnswers();
    }

    /** All that a desk of at most 4 sets tells, but for its history. */
    static String told(SetRepairs x) {
        StringBuilder all = new StringBuilder();
        for (int which = 0; which < 5; which++) {
            all.append(x.rate(which)).append(' ').append(x.number(which)).append(' ');
        }
        for (int part = 0; part < 6; part++) {
            for (int what = 0; what < 6; what++) {
                all.append(x.part(part, what)).append(' ');
            }
        }
        for (int set = 0; set < 5; set++) {
            for (int what = 0; what < 9; what++) {
                all.append(x.set(set, what)).append(' ');
            }
            all.append(x.waitsFor(set)).append(' ').append(x.doneIn(set)).append(' ');
        }
        for (int what = 0; what < 16; what++) {
            all.append(x.count(what)).append(' ');
        }
        return all.append(x.meanDays()).toString();
    }

    static int bits(float value) {
        return Float.floatToRawIntBits(value);
    }
}
