/** Promises 10, 14 and 15: readAnswers, type, clearText. */
public final class TextTest {
    private static final Check CHECK = new Check("TextTest");

    public static void main(String[] args) {
        promise10Faults();
        promise10EveryCharacter();
        promise10LongTexts();
        promise10Does();
        promise10AllOrNone();
        promise10OneAct();
        promise10InTurn();
        promise14Type();
        promise15Clear();
        textIsNoState();
        CHECK.end();
    }

    private static void promise10Faults() {
        CHECK.promise("promise 10");
        String[] texts = {
            "", "0", "00y", "01y", "1", "12", "123y", "0y,", "0y,1", "y", "n", ",", "0y1y", "0yn",
            "0y,,1y", "0Y", "0N", " 0y", "0 y", "0y ", "10y,01n", "10y,19", "0n;1y", "-1y", "1,0y",
            "9x", "99x", "0y,n", "0x", "0,",
        };
        int[] faults = {
            0, 1, 1, 1, 1, 2, 2, 3, 4, 0, 0, 0, 2, 2,
            3, 1, 1, 0, 1, 2, 5, 6, 2, 0, 1,
            1, 2, 3, 1, 1,
        };
        for (int i = 0; i < texts.length; i++) {
            SetRepairs x = Desks.estimated(0, 1);
            int before = x.count(16);
            CHECK.due("readAnswers of '" + texts[i] + "'", Desks.readAnswers(x, texts[i]), -100 - faults[i]);
            CHECK.due("count(17)", x.count(17), texts[i].length());
            CHECK.due("count(3)", x.count(3), 2);
            CHECK.due("count(16)", x.count(16), before);
        }
        SetRepairs x = new SetRepairs();
        CHECK.due("a fault ahead of what is not possible", Desks.readAnswers(x, "7y,"), -103);
        CHECK.due("no set, but no fault", Desks.readAnswers(x, "7y"), SetRepairs.NOT_POSSIBLE);
        CHECK.due("no set, but no fault", Desks.readAnswers(x, "99n"), SetRepairs.NOT_POSSIBLE);
    }

    private static void promise10EveryCharacter() {
        CHECK.promise("promise 10");
        String[] starts = {"", "0", "5", "10", "5y"};
        String[] allowed = {"0123456789", "yn", "0123456789yn", "yn", ","};
        for (int start = 0; start < starts.length; start++) {
            for (int character = 0; character < 300; character++) {
                SetRepairs x = new SetRepairs();
                Desks.typeAll(x, starts[start]);
                x.type((char) character);
                x.type('!');
                boolean is = allowed[start].indexOf((char) character) >= 0;
                CHECK.due("readAnswers with " + character + " behind '" + starts[start] + "'",
                    x.readAnswers(), -100 - starts[start].length() - (is ? 1 : 0));
            }
        }
    }

    private static void promise10LongTexts() {
        CHECK.promise("promise 10");
        SetRepairs x = Desks.estimated(0, 0, 0, 0, 0, 0, 0, 0, 0, 0, 1, 1, 1, 1, 1, 1, 1, 1, 1);
        StringBuilder text = new StringBuilder();
        for (int set = 0; set < 17; set++) {
            text.append(set).append(set % 2 == 0 ? "y," : "n,");
        }
        CHECK.due("length", text.length(), 3 * 10 + 4 * 7);
        x.put(0, 4);
        x.put(1, 1);
        CHECK.due("readAnswers with ',' at the end", Desks.readAnswers(x, text.toString()), -158);
        text.setLength(57);
        CHECK.due("readAnswers of 17", Desks.readAnswers(x, text.toString()), 5);
        CHECK.due("count(4)", x.count(4), 4);
        CHECK.due("count(5)", x.count(5), 5);
        CHECK.due("count(7)", x.count(7), 8);
        CHECK.due("count(3)", x.count(3), 2);
        text.append(",1");
        CHECK.due("length", text.length(), 59);
        CHECK.due("readAnswers of 59", Desks.readAnswers(x, text.toString()), -159);
        text.append("7y");
        CHECK.due("readAnswers of 60", Desks.readAnswers(x, text.toString()), -160);
        CHECK.due("count(17)", x.count(17), 60);
    }

    private static void promise10Does() {
        CHECK.promise("promise 10");
        SetRepairs x = Desks.estimated(0, 1, 2, 3);
        x.put(0, 1);
        x.put(2, 1);
        x.pass(1);
        CHECK.due("readAnswers", Desks.readAnswers(x, "0y,1n,2y"), 1);
        CHECK.due("set(0, 6)", x.set(0, 6), 3);
        CHECK.due("set(1, 6)", x.set(1, 6), 5);
        CHECK.due("set(1, 7)", x.set(1, 7), 1);
        CHECK.due("set(2, 6)", x.set(2, 6), 2);
        CHECK.due("set(3, 6)", x.set(3, 6), 1);
        CHECK.due("part(0, 3)", x.part(0, 3), 1);
        CHECK.due("count(17)", x.count(17), 8);
        CHECK.due("readAnswers again", x.readAnswers(), SetRepairs.NOT_POSSIBLE);
        CHECK.due("readAnswers of none in work", Desks.readAnswers(x, "3n"), 0);
        CHECK.due("count(7)", x.count(7), 2);
        x = Desks.estimated(0, 0, 0, 0, 0, 0, 0, 0, 0, 0, 0, 0, 0);
        x.put(0, 9);
        CHECK.due("readAnswers of two digits", Desks.readAnswers(x, "12y,10y"), 2);
        CHECK.due("set(12, 6)", x.set(12, 6), 3);
        CHECK.due("set(10, 6)", x.set(10, 6), 3);
        CHECK.due("set(1, 6)", x.set(1, 6), 1);
    }

    private static void promise10AllOrNone() {
        CHECK.promise("promise 10");
        SetRepairs x = Desks.estimated(0, 0, 1);
        x.come(2);
        x.put(0, 9);
        int before = x.count(16);
        String[] texts = {"0y,1y,2y,3y", "0y,4y", "0y,0y", "0y,1n,0n", "2n,20n", "3y", "0y,99y"};
        for (String text : texts) {
            CHECK.due("readAnswers of " + text, Desks.readAnswers(x, text), SetRepairs.NOT_POSSIBLE);
            CHECK.due("count(3)", x.count(3), 3);
            CHECK.due("part(0, 3)", x.part(0, 3), 0);
            CHECK.due("count(16)", x.count(16), before);
        }
        CHECK.due("readAnswers", Desks.readAnswers(x, "0y,1y,2y"), 2);
    }

    private static void promise10OneAct() {
        CHECK.promise("promise 10");
        SetRepairs x = Desks.estimated(0, 0);
        CHECK.due("readAnswers", Desks.readAnswers(x, "0y,1n"), 0);
        CHECK.due("undo()", x.undo(), 3);
        CHECK.due("set(0, 6)", x.set(0, 6), 1);
        CHECK.due("set(1, 6)", x.set(1, 6), 1);
        CHECK.due("count(17)", x.count(17), 5);
        CHECK.due("readAnswers after undo", x.readAnswers(), 0);
    }

    /** The parts go to the sets in the order of the text, not of their numbers. */
    private static void promise10InTurn() {
        CHECK.promise("promise 10");
        SetRepairs x = Desks.estimated(1, 1, 1);
        x.put(1, 2);
        CHECK.due("readAnswers", Desks.readAnswers(x, "2y,1y,0y"), 2);
        CHECK.due("set(2, 6)", x.set(2, 6), 3);
        CHECK.due("set(1, 6)", x.set(1, 6), 3);
        CHECK.due("set(0, 6)", x.set(0, 6), 2);
    }

    private static void promise14Type() {
        CHECK.promise("promise 14");
        SetRepairs x = new SetRepairs();
        char[] some = {'0', ' ', (char) 0, (char) 255, (char) 65535, 'y'};
        for (int i = 0; i < 60; i++) {
            CHECK.due("type", x.type(some[i % some.length]), i + 1);
            CHECK.due("count(17)", x.count(17), i + 1);
        }
        CHECK.due("type at 60", x.type('0'), SetRepairs.FULL);
        CHECK.due("count(17)", x.count(17), 60);
        CHECK.due("count(16)", x.count(16), 0);
        x.clearText();
        CHECK.due("type behind clearText", x.type('0'), 1);
    }

    private static void promise15Clear() {
        CHECK.promise("promise 15");
        SetRepairs x = Desks.estimated(0);
        Desks.typeAll(x, "0x");
        int before = x.count(16);
        CHECK.due("clearText()", x.clearText(), 2);
        CHECK.due("clearText() again", x.clearText(), 0);
        CHECK.due("count(17)", x.count(17), 0);
        CHECK.due("count(16)", x.count(16), before);
        CHECK.due("readAnswers()", x.readAnswers(), -100);
        Desks.typeAll(x, "0y");
        CHECK.due("readAnswers()", x.readAnswers(), 0);
        CHECK.due("clearText()", x.clearText(), 2);
    }

    private static void textIsNoState() {
        CHECK.promise("promises 14 to 18");
        SetRepairs x = new SetRepairs();
        x.type('1');
        x.keep();
        x.come(0);
        x.type('2');
        x.undo();
        CHECK.due("count(17) after undo", x.count(17), 2);
        x.type('y');
        x.restore();
        CHECK.due("count(17) after restore", x.count(17), 3);
        CHECK.due("readAnswers()", x.readAnswers(), SetRepairs.NOT_POSSIBLE);
    }
}
