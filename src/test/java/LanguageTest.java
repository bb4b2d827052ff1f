import java.lang.management.ManagementFactory;
import java.lang.reflect.Constructor;
import java.lang.reflect.Field;
import java.lang.reflect.Method;
import java.lang.reflect.Modifier;
import java.nio.file.Files;
import java.nio.file.Path;
import java.util.ArrayList;
import java.util.List;
import java.util.Set;
import java.util.TreeSet;
import java.util.regex.Matcher;
import java.util.regex.Pattern;

/** What LANGUAGE.md asks of the source, its sizes and the face, and that calls make no objects. */
public final class LanguageTest {
    private static final Check CHECK = new Check("LanguageTest");
    private static final String SOURCE = "src/main/java/SetRepairs.java";

    private static final String[] METHODS = {
        "int setRate(int,int)", "int setNumber(int,int)", "int setPart(int,int,int)", "int order(int,int)",
        "int put(int,int)", "int come(int)", "int estimate(int)", "int answer(int,boolean)", "int readAnswers()",
        "int lend(int)", "int collect(int)", "int pass(int)", "int type(char)", "int clearText()", "int undo()",
        "int keep()", "int restore()", "float rate(int)", "int number(int)", "int part(int,int)", "int costOf(int)",
        "int set(int,int)", "int waitsFor(int)", "int lacks(int)", "int doneIn(int)", "float meanDays()",
        "int count(int)",
    };

    private static final String[] FORBIDDEN = {
        "\\bcatch\\b", "\\btry\\b", "\\bthrow\\b", "\\bfinally\\b", "->", "::", "\\bsynchronized\\b", "\\bassert\\b",
        "\\bpackage\\b", "\\bdouble\\b", "\\bstatic\\s*\\{", "\\bFloat\\b", "\\bDouble\\b", "\\bSystem\\.(?!arraycopy)",
        "\\bThread\\b", "\\bObject\\b", "Exact\\(", "\\bvar\\b", "\"", "\\bextends\\b", "\\bprotected\\b",
        "\\bstatic final (float|double|String)", "\\bimport\\b",
    };

    public static void main(String[] args) throws Exception {
        CHECK.promise("the face");
        face();
        constants();
        CHECK.promise("the source");
        source();
        sizes();
        CHECK.promise("the room");
        callsMakeNoObjects();
        CHECK.end();
    }

    private static void face() {
        Class<?> type = SetRepairs.class;
        CHECK.dueTrue("the class is not public and final",
            Modifier.isPublic(type.getModifiers()) && Modifier.isFinal(type.getModifiers()));
        Set<String> due = new TreeSet<>(Set.of(METHODS));
        Set<String> names = new TreeSet<>();
        for (Method method : type.getDeclaredMethods()) {
            if (Modifier.isPublic(method.getModifiers())) {
                CHECK.dueTrue("not in the document: " + told(method), due.remove(told(method)));
                names.add(method.getName());
            }
        }
        CHECK.dueTrue("missing: " + due, due.isEmpty());
        for (Method method : type.getDeclaredMethods()) {
            if (!Modifier.isPublic(method.getModifiers())) {
                CHECK.dueTrue("not private: " + method, Modifier.isPrivate(method.getModifiers()));
                CHECK.dueTrue("a private one bears a public name: " + method, !names.contains(method.getName()));
            }
        }
        Constructor<?>[] constructors = type.getDeclaredConstructors();
        CHECK.due("constructors", constructors.length, 1);
        CHECK.dueTrue("the constructor is not public", Modifier.isPublic(constructors[0].getModifiers()));
        CHECK.due("the constructor's parameters", constructors[0].getParameterCount(), 0);
        for (Class<?> inside : type.getDeclaredClasses()) {
            int modifiers = inside.getModifiers();
            CHECK.dueTrue("wrong inside: " + inside, Modifier.isPrivate(modifiers) && Modifier.isStatic(modifiers));
        }
    }

    private static String told(Method method) {
        StringBuilder all = new StringBuilder(method.getReturnType() + " " + method.getName() + "(");
        for (Class<?> parameter : method.getParameterTypes()) {
            all.append(all.charAt(all.length() - 1) == '(' ? "" : ",").append(parameter);
        }
        return all.append(")").toString();
    }

    private static void constants() {
        Set<String> due = new TreeSet<>(Set.of("UNKNOWN", "BAD_VALUE", "FULL", "NOT_POSSIBLE", "NONE"));
        for (Field field : SetRepairs.class.getDeclaredFields()) {
            int modifiers = field.getModifiers();
            if (!Modifier.isPrivate(modifiers)) {
                CHECK.dueTrue("not in the document: " + field, due.remove(field.getName()));
                CHECK.dueTrue("not public: " + field, Modifier.isPublic(modifiers));
            }
            if (Modifier.isStatic(modifiers)) {
                CHECK.dueTrue("static and not final: " + field, Modifier.isFinal(modifiers));
            }
        }
        CHECK.dueTrue("missing: " + due, due.isEmpty());
        CHECK.due("UNKNOWN", SetRepairs.UNKNOWN, -1);
        CHECK.due("BAD_VALUE", SetRepairs.BAD_VALUE, -2);
        CHECK.due("FULL", SetRepairs.FULL, -3);
        CHECK.due("NOT_POSSIBLE", SetRepairs.NOT_POSSIBLE, -4);
        CHECK.due("NONE", SetRepairs.NONE, -5);
    }

    /** Words that stand for what the rules leave out; comments do not count. */
    private static void source() throws Exception {
        String code = Files.readString(Path.of(SOURCE)).replaceAll("(?s)/\\*.*?\\*/", "").replaceAll("//[^\n]*", "");
        for (String forbidden : FORBIDDEN) {
            Matcher matcher = Pattern.compile(forbidden).matcher(code);
            CHECK.dueTrue("the source has " + forbidden, !matcher.find());
        }
        CHECK.dueTrue("a sign beyond 127", code.chars().allMatch(sign -> sign < 128));
    }

    /** The sizes of rule 11, and the names of rule 1 in the classes inside too. */
    private static void sizes() throws Exception {
        List<Class<?>> types = new ArrayList<>(List.of(SetRepairs.class.getDeclaredClasses()));
        CHECK.dueTrue("more than 11 classes inside", types.size() <= 11);
        types.add(SetRepairs.class);
        for (Class<?> type : types) {
            int fields = 0;
            for (Field field : type.getDeclaredFields()) {
                fields += Modifier.isStatic(field.getModifiers()) ? 0 : 1;
            }
            CHECK.dueTrue(type + " has " + fields + " fields", fields <= 20);
            for (Method method : type.getDeclaredMethods()) {
                CHECK.dueTrue("more than 7 parameters: " + method, method.getParameterCount() <= 7);
                boolean isPrivate = Modifier.isPrivate(method.getModifiers());
                CHECK.dueTrue("bears a public name: " + method, !isPrivate || !isPublicName(method.getName()));
            }
        }
        methodsAreShort();
    }

    private static boolean isPublicName(String name) {
        for (String method : METHODS) {
            if (method.contains(" " + name + "(")) {
                return true;
            }
        }
        return false;
    }

    /** A method begins with "{" behind its parameters, and ends with "}" as far in as it began. */
    private static void methodsAreShort() throws Exception {
        List<String> lines = Files.readAllLines(Path.of(SOURCE));
        Pattern begins = Pattern.compile("( {4}| {8})(?! |if |for |while |switch |do )[\\w\\[\\] ]+\\(.*\\) \\{");
        int methods = 0;
        for (int i = 0; i < lines.size(); i++) {
            Matcher matcher = begins.matcher(lines.get(i));
            if (matcher.matches()) {
                int end = i;
                while (end < lines.size() && !lines.get(end).equals(matcher.group(1) + "}")) {
                    end++;
                }
                methods++;
                CHECK.dueTrue((end - i + 1) + " lines: " + lines.get(i), end - i + 1 <= 60);
            }
        }
        CHECK.dueTrue("only " + methods + " methods were found", methods >= METHODS.length);
    }

    /** All calls of a run live in one room: only the constructor may fill it. */
    private static void callsMakeNoObjects() {
        var threads = (com.sun.management.ThreadMXBean) ManagementFactory.getThreadMXBean();
        long least = Long.MAX_VALUE;
        for (int time = 0; time < 20; time++) {
            SetRepairs x = new SetRepairs();
            long before = threads.getCurrentThreadAllocatedBytes();
            callEverything(x);
            least = Math.min(least, threads.getCurrentThreadAllocatedBytes() - before);
        }
        CHECK.dueTrue("the calls made " + least + " bytes of objects", least < 256);
    }

    private static void callEverything(SetRepairs x) {
        for (int set = 0; set < 20; set++) {
            x.come(set % 5);
            x.estimate(set);
            x.order(set % 6, 3);
            x.put(set % 6, 1);
            x.type((char) ('0' + set % 10));
            x.type(set % 3 == 0 ? 'y' : 'n');
            x.readAnswers();
            x.type(',');
            x.lend(set);
            x.keep();
            x.answer(set, set % 4 > 0);
            x.setRate(set % 4, 0x3f800000);
            x.setNumber(set % 5, 1);
            x.setPart(set % 6, 50 + set, 1);
            x.doneIn(set);
            x.pass(1);
            x.restore();
            x.undo();
            x.undo();
            x.collect(set);
            x.clearText();
            x.rate(0);
            x.count(set);
            x.meanDays();
        }
    }
}
