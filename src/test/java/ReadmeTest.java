import java.nio.file.Files;
import java.nio.file.Path;
import java.util.ArrayList;
import java.util.List;
import java.util.regex.Matcher;
import java.util.regex.Pattern;

/** The calls that README.md shows, in its order, with the answers that it tells behind them. */
public final class ReadmeTest {
    private static final Check CHECK = new Check("ReadmeTest");
    private static final Pattern CALL = Pattern.compile("(\\S.*);\\s+// (-?\\d+).*");

    private static final List<Matcher> SHOWN = new ArrayList<>();
    private static int next = 0;

    public static void main(String[] args) throws Exception {
        CHECK.promise("README.md");
        for (String line : Files.readAllLines(Path.of("README.md"))) {
            Matcher call = CALL.matcher(line);
            if (call.matches()) {
                SHOWN.add(call);
            }
        }
        oneSet();
        textOfAnswers();
        CHECK.due("calls that README.md shows", SHOWN.size(), next);
        CHECK.end();
    }

    /** The next call in the page must be this one, with this answer. */
    private static int shown(String call, int got) {
        if (next < SHOWN.size()) {
            Matcher line = SHOWN.get(next);
            CHECK.dueTrue("shows " + line.group(1) + ", not " + call, line.group(1).equals(call));
            CHECK.due(call, got, Integer.parseInt(line.group(2)));
        }
        next++;
        return got;
    }

    private static void oneSet() {
        SetRepairs desk = new SetRepairs();
        int set = shown("int set = desk.come(0)", desk.come(0));
        shown("desk.estimate(set)", desk.estimate(set));
        shown("desk.answer(set, true)", desk.answer(set, true));
        shown("desk.waitsFor(set)", desk.waitsFor(set));
        shown("desk.order(desk.lacks(set), 1)", desk.order(desk.lacks(set), 1));
        shown("desk.doneIn(set)", desk.doneIn(set));
        shown("desk.pass(2)", desk.pass(2));
        shown("desk.collect(set)", desk.collect(set));
        shown("desk.undo()", desk.undo());
        shown("desk.setRate(2, Float.floatToRawIntBits(30.5f))", desk.setRate(2, Float.floatToRawIntBits(30.5f)));
        shown("desk.pass(9)", desk.pass(9));
        shown("desk.collect(set)", desk.collect(set));
    }

    private static void textOfAnswers() {
        SetRepairs many = new SetRepairs();
        shown("many.estimate(many.come(2))", many.estimate(many.come(2)));
        shown("many.estimate(many.come(4))", many.estimate(many.come(4)));
        shown("many.put(2, 3)", many.put(2, 3));
        shown("many.keep()", many.keep());
        Desks.typeAll(many, "0y,1");
        shown("many.readAnswers()", many.readAnswers());
        shown("many.type('n')", many.type('n'));
        shown("many.readAnswers()", many.readAnswers());
        shown("many.count(5)", many.count(5));
        shown("many.restore()", many.restore());
        shown("many.count(5)", many.count(5));
    }
}
