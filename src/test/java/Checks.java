import java.lang.reflect.InvocationTargetException;
import java.lang.reflect.Method;
import java.util.Arrays;
import java.util.Comparator;
import java.util.function.IntSupplier;
import java.util.function.ToIntFunction;

/** What tests of single answers have in common. */
abstract class Checks {
    static final int NONE = TwoLevels.NONE;
    static final int LOW = Integer.MIN_VALUE;
    static final int HIGH = Integer.MAX_VALUE;
    /** s derives as many a as b, two of each at most while LONG is 2. */
    static final String COPIES = "N=i|iN;s:aN,bN;aiN:\"a,aN;ai:\"a;biN:\"b,bN;bi:\"b";

    private static String about = "";
    private static int checks;
    private static int wrong;

    static void about(String what) {
        about = what;
    }

    static void due(int got, int want, String what) {
        checks++;
        if (got != want) {
            wrong++;
            System.out.println(about + ": " + what + " answered " + got + ", due is " + want);
        }
    }

    /** Runs every test of a class: its methods without arguments that are named after a term or a promise. */
    static void runAll(Class<?> tests) throws IllegalAccessException {
        Method[] methods = tests.getDeclaredMethods();
        Arrays.sort(methods, Comparator.comparing(Method::getName));
        for (Method m : methods) {
            if (!m.getName().matches("(term|promise).*")) continue;
            about = m.getName();
            try {
                m.invoke(null);
            } catch (InvocationTargetException e) {
                wrong++;
                System.out.println(about + ": threw " + e.getCause());
            }
        }
    }

    static void finish() {
        System.out.println(wrong == 0 ? checks + " checks passed" : wrong + " of " + checks + " checks failed");
        if (wrong != 0) {
            System.exit(1);
        }
    }

    static TwoLevels told(String grammar) {
        TwoLevels x = new TwoLevels();
        if (Calls.tell(x, grammar) < 0) {
            due(-1, 0, "the test's own grammar " + grammar);
        }
        return x;
    }

    static TwoLevels asked(String grammar, String notion, String text) {
        TwoLevels x = told(grammar);
        ask(x, notion, text);
        return x;
    }

    static void ask(TwoLevels x, String notion, String text) {
        due(Calls.notion(x, notion), notion.length(), "notion " + notion);
        due(Calls.text(x, text) < 0 ? 1 : 0, 0, "text " + text);
    }

    static int faulty(int place, int kind) {
        return -2 - (8 * place + kind);
    }

    static void fault(String grammar, int place, int kind) {
        TwoLevels x = new TwoLevels();
        due(Calls.tell(x, grammar), faulty(place, kind), "tell of " + grammar);
        due(x.count(8), 0, "the TAPE behind " + grammar);
        due(x.count(0) + x.count(1), 0, "the GRAMMAR behind " + grammar);
    }

    static void fine(String grammar, int rules, int metas) {
        TwoLevels x = new TwoLevels();
        due(Calls.tell(x, grammar), rules, "tell of " + grammar);
        due(x.count(0), metas, "METANOTIONS of " + grammar);
    }

    static String many(String part, int times) {
        return part.repeat(times);
    }

    static String wordOf(TwoLevels x, int name, int k) {
        StringBuilder s = new StringBuilder();
        int size = x.word(name, k, NONE);
        for (int i = 0; i < size; i++) s.append((char) x.word(name, k, i));
        return s.toString();
    }

    static void dueWords(TwoLevels x, int name, String... list) {
        due(x.meta(name, 1), list.length, "how many words " + (char) name + " HAS");
        for (int k = 0; k < list.length; k++) {
            String word = wordOf(x, name, k);
            due(word.equals(list[k]) ? 1 : 0, 1, "word " + k + " of " + (char) name + ", " + word + ", being " + list[k]);
        }
        due(x.word(name, list.length, NONE), -2, "a word behind the last");
    }

    /** What the METANOTION of a letter stands for in an ASSIGNMENT. */
    static String stood(TwoLevels x, int rule, int k, int name) {
        StringBuilder s = new StringBuilder();
        for (int i = 0; i < x.assigned(rule, k, name, NONE); i++) s.append((char) x.assigned(rule, k, name, i));
        return s.toString();
    }

    /** An object of which every ACT, SHELF and search has something to tell. */
    static TwoLevels busy() {
        TwoLevels x = asked(COPIES, "s", "a a b b");
        x.settle(0, 7);
        x.swap(1, 2);
        x.keep(1);
        Calls.put(x, "ab");
        return x;
    }

    /** The call answers so on a busy object, and nothing happens by it. */
    static void refused(int want, ToIntFunction<TwoLevels> call, String what) {
        TwoLevels x = busy();
        refused(x, want, () -> call.applyAsInt(x), what);
    }

    /** The call answers so, and nothing happens by it. */
    static void refused(TwoLevels x, int want, IntSupplier call, String what) {
        String before = seen(x);
        due(call.getAsInt(), want, what);
        String after = seen(x);
        due(after.equals(before) ? 1 : 0, 1, what + " changed " + before + " to " + after + ": unchanged");
    }

    /** Much of what an object tells of itself, by some fifty calls. */
    private static String seen(TwoLevels x) {
        StringBuilder s = new StringBuilder();
        for (int what = 0; what <= 10; what++) s.append(x.count(what)).append(' ');
        for (int r = 0; r < x.count(1); r++) s.append((char) x.head(r, 0)).append(x.rule(r, 0)).append(x.rule(r, 1)).append(' ');
        for (int i = 0; i < x.count(4); i++) s.append((char) x.letter(NONE, i));
        for (int k = 0; k < x.count(3); k++) s.append(' ').append((char) x.letter(k, 0));
        s.append(' ').append(x.blind()).append(' ').append(x.holds()).append(' ').append(x.derives());
        s.append(' ').append(x.steps(0)).append(' ').append(x.least()).append(' ').append(x.node(NONE, 0));
        return s.toString();
    }
}
