/** Runs of mixed calls, right and wrong ones, each answered by the program and by the model alike. */
public final class ModelTest {
    private static final int RUNS = 1200;
    /** Behind 512 calls nothing is promised; the step that types a text makes some 25. */
    private static final int LAST_STEP_AFTER = 470;
    private static final Check CHECK = new Check("ModelTest");
    private static final int[] WILD = {
        -1, -2, 5, 6, 9, 10, 18, 20, 60, 61, 100, Integer.MIN_VALUE, Integer.MAX_VALUE, 0x80000000, 0x7fc00000,
        0x3f800000, 0x40400000, 0x447a0000, 0x447a0001,
    };

    private long seed;
    private final SetRepairs program = new SetRepairs();
    private final Model model = new Model();
    private final boolean scarce;
    private int calls = 0;

    private ModelTest(int run) {
        seed = run * 0x9E3779B97F4A7C15L + 1;
        scarce = run % 3 != 0;
    }

    public static void main(String[] args) {
        for (int run = 0; run < RUNS; run++) {
            CHECK.promise("run " + run);
            new ModelTest(run).callAll();
        }
        CHECK.end();
    }

    /** A number from 0 to below the limit, always the same ones in a run. */
    private int some(int limit) {
        seed ^= seed << 13;
        seed ^= seed >>> 7;
        seed ^= seed << 17;
        return (int) Math.floorMod(seed >>> 11, (long) limit);
    }

    private int orWild(int value) {
        return some(60) == 0 ? WILD[some(WILD.length)] : value;
    }

    private void callAll() {
        while (calls < LAST_STEP_AFTER) {
            if (some(100) < 55) {
                act();
            } else {
                ask();
            }
        }
    }

    private void due(String call, int got, int want) {
        calls++;
        CHECK.due("call " + calls + ", " + call, got, want);
    }

    private void dueFloat(String call, float got, float want) {
        calls++;
        CHECK.dueFloat("call " + calls + ", " + call, got, want);
    }

    private void act() {
        int kind = some(100);
        if (kind < 50) {
            actOnSet(kind);
        } else if (kind < 68) {
            actOnParts(kind);
        } else if (kind < 80) {
            int days = orWild(some(8) == 0 ? 1 + some(60) : 1 + some(3));
            due("pass(" + days + ")", program.pass(days), model.pass(days));
        } else if (kind < 88) {
            actOnSettings(kind);
        } else if (kind < 93) {
            readSomeText();
        } else {
            actOnHistory(kind);
        }
    }

    private int someSet() {
        int many = Math.max(1, model.count(1));
        return orWild(some(12) == 0 ? some(22) : some(many));
    }

    private void actOnSet(int kind) {
        int set = someSet();
        if (kind < 10) {
            int fault = orWild(some(5));
            due("come(" + fault + ")", program.come(fault), model.come(fault));
        } else if (kind < 24) {
            due("estimate(" + set + ")", program.estimate(set), model.estimate(set));
        } else if (kind < 38) {
            boolean is = some(5) > 0;
            due("answer(" + set + ", " + is + ")", program.answer(set, is), model.answer(set, is));
        } else if (kind < 44) {
            due("lend(" + set + ")", program.lend(set), model.lend(set));
        } else {
            due("collect(" + set + ")", program.collect(set), model.collect(set));
        }
    }

    private void actOnParts(int kind) {
        int part = orWild(some(6));
        int many = orWild(1 + some(scarce ? 2 : 9));
        if (kind < 57) {
            due("order(" + part + ", " + many + ")", program.order(part, many), model.order(part, many));
        } else if (kind < 64) {
            due("put(" + part + ", " + many + ")", program.put(part, many), model.put(part, many));
        } else {
            int price = orWild(some(6) == 0 ? 1 + some(50000) : 1 + some(900));
            int lead = orWild(1 + some(some(4) == 0 ? 30 : 4));
            due("setPart(" + part + ", " + price + ", " + lead + ")",
                program.setPart(part, price, lead), model.setPart(part, price, lead));
        }
    }

    private void actOnSettings(int kind) {
        if (kind < 84) {
            int which = orWild(some(4));
            int[] wide = {2000, 1000, 1000000, 1000};
            int[] low = {1000, 1000, 0, 0};
            int index = Math.floorMod(which, 4);
            float value = (low[index] + some(wide[index] + 1)) / 1000.0f;
            int bits = orWild(Float.floatToRawIntBits(value));
            due("setRate(" + which + ", " + bits + ")", program.setRate(which, bits), model.setRate(which, bits));
        } else {
            int which = orWild(some(5));
            int[] wide = {scarce ? 4 : 25, 20100, 61, some(3) == 0 ? 401 : 12, 7};
            int value = orWild(some(wide[Math.floorMod(which, 5)]));
            due("setNumber(" + which + ", " + value + ")", program.setNumber(which, value), model.setNumber(which, value));
        }
    }

    /** Types a text of answers for sets that are estimated, at times with a wrong one or a fault. */
    private void readSomeText() {
        StringBuilder text = new StringBuilder();
        int sets = Math.max(1, model.count(1));
        int first = some(sets);
        int most = 1 + some(4);
        for (int i = 0; i < sets && most > 0; i++) {
            int set = (first + i) % sets;
            if (model.set(set, 6) == 1 || some(40) == 0) {
                text.append(text.length() == 0 ? "" : ",").append(set).append(some(5) > 0 ? 'y' : 'n');
                most--;
            }
        }
        if (some(4) == 0 && text.length() > 0) {
            String signs = "0123456789yn, ";
            text.setCharAt(some(text.length()), signs.charAt(some(signs.length())));
        }
        if (some(8) > 0) {
            due("clearText()", program.clearText(), model.clearText());
        }
        for (int i = 0; i < text.length(); i++) {
            char character = text.charAt(i);
            due("type(" + (int) character + ")", program.type(character), model.type(character));
        }
        due("readAnswers() of " + text, program.readAnswers(), model.readAnswers());
    }

    private void actOnHistory(int kind) {
        if (kind < 97) {
            due("undo()", program.undo(), model.undo());
        } else if (kind < 98) {
            due("keep()", program.keep(), model.keep());
        } else if (some(2) == 0) {
            due("restore()", program.restore(), model.restore());
        }
    }

    private void ask() {
        int set = someSet();
        int kind = some(20);
        if (kind < 4) {
            int what = orWild(some(18));
            due("count(" + what + ")", program.count(what), model.count(what));
        } else if (kind < 8) {
            int what = orWild(some(9));
            due("set(" + set + ", " + what + ")", program.set(set, what), model.set(set, what));
        } else if (kind < 11) {
            int part = orWild(some(6));
            int what = orWild(some(6));
            due("part(" + part + ", " + what + ")", program.part(part, what), model.part(part, what));
        } else if (kind < 13) {
            due("waitsFor(" + set + ")", program.waitsFor(set), model.waitsFor(set));
        } else if (kind < 15) {
            due("doneIn(" + set + ")", program.doneIn(set), model.doneIn(set));
        } else if (kind < 17) {
            due("lacks(" + set + ")", program.lacks(set), model.lacks(set));
        } else if (kind < 18) {
            dueFloat("meanDays()", program.meanDays(), model.meanDays());
        } else if (kind < 19) {
            int fault = orWild(some(5));
            due("costOf(" + fault + ")", program.costOf(fault), model.costOf(fault));
        } else {
            int which = orWild(some(5));
            dueFloat("rate(" + which + ")", program.rate(which), model.rate(which));
            due("number(" + which + ")", program.number(which), model.number(which));
        }
    }
}
