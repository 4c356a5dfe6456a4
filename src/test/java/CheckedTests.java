import java.lang.reflect.Array;
import java.lang.reflect.Field;

/**
 * Promise 31 where no run of calls comes: a NODE is made wrong behind the class's back, and checked() must tell it, or
 * one ahead of it whose MEMBERS it then does not fit.
 */
public final class CheckedTests extends Checks {
    private static final String[] NUMBERS = {"row", "level", "above", "from", "many", "rule", "number", "alternative"};

    private CheckedTests() {
    }

    public static void main(String[] args) throws ReflectiveOperationException {
        about("promise31");
        int wrongOnes = 0;
        for (int k = 0; k < 5; k++) {
            for (String name : NUMBERS) {
                for (int more : new int[] {1, -1, 100}) wrongOnes += numberMadeWrong(k, name, more);
            }
        }
        wrongOnes += freeWordMadeWrong(3);
        wrongOnes += freeWordMadeWrong(1 << 20);
        wrongOnes += alternativeTakenAway();
        due(wrongOnes, 5 * NUMBERS.length * 3 + 3, "NODES made wrong");
        nodeTakenAway();
        finish();
    }

    private static Object get(Object of, String name) throws ReflectiveOperationException {
        Field field = of.getClass().getDeclaredField(name);
        field.setAccessible(true);
        return field.get(of);
    }

    private static void set(Object of, String name, long value) throws ReflectiveOperationException {
        Field field = of.getClass().getDeclaredField(name);
        field.setAccessible(true);
        if (field.getType() == long.class) {
            field.setLong(of, value);
        } else {
            field.setInt(of, (int) value);
        }
    }

    private static TwoLevels derived() {
        TwoLevels x = asked(COPIES, "s", "a a b b");
        due(x.node(NONE, 0), 5, "NODES");
        due(x.checked(), NONE, "as told");
        return x;
    }

    private static Object nodeOf(TwoLevels x, int k) throws ReflectiveOperationException {
        return Array.get(get(get(x, "derivation"), "nodes"), k);
    }

    private static void dueUpTo(TwoLevels x, int k, String what) {
        int got = x.checked();
        due(got >= 0 && got <= k ? 1 : 0, 1, what + " of NODE " + k + " made wrong, checked " + got + ": told");
    }

    private static int numberMadeWrong(int k, String name, int more) throws ReflectiveOperationException {
        TwoLevels x = derived();
        Object node = nodeOf(x, k);
        set(node, name, ((Number) get(node, name)).longValue() + more);
        dueUpTo(x, k, name + " " + more);
        return 1;
    }

    private static int freeWordMadeWrong(long word) throws ReflectiveOperationException {
        TwoLevels x = derived();
        ((long[]) get(nodeOf(x, 0), "stands"))[0] = word;
        dueUpTo(x, 0, "a FREE word");
        return 1;
    }

    private static int alternativeTakenAway() throws ReflectiveOperationException {
        TwoLevels x = derived();
        Object node = nodeOf(x, 2);
        Field choice = node.getClass().getDeclaredField("choice");
        choice.setAccessible(true);
        choice.set(node, null);
        dueUpTo(x, 2, "the alternative");
        return 1;
    }

    private static void nodeTakenAway() throws ReflectiveOperationException {
        for (int left = 1; left < 5; left++) {
            TwoLevels x = derived();
            set(get(x, "derivation"), "size", left);
            dueUpTo(x, left - 1, "all behind");
        }
    }
}
