import java.lang.management.ManagementFactory;
import java.util.Random;

/** How much a long run makes, and that odd calls in any state end and throw nothing. */
public final class RoomTests {
    /** Far below 7.3 million elements, of four bytes at least, that all calls of a run have together. */
    private static final long BYTES = 4000000;

    private static int wrong;

    private RoomTests() {
    }

    public static void main(String[] args) {
        room("a new object", () -> new TwoLevels(), 60000);
        room("many RULES told", RoomTests::tellMuch, BYTES);
        room("small GRAMMARS told", RoomTests::tellOften, BYTES);
        room("ACTS and searches", RoomTests::actAndSearch, BYTES);
        room("deep searches", RoomTests::searchDeep, BYTES);
        long seconds = System.nanoTime();
        for (int seed = 1; seed <= 60; seed++) oddCalls(new Random(seed));
        System.out.println("odd calls took " + (System.nanoTime() - seconds) / 1000000 + " ms");
        wide();
        wideOften();
        System.out.println(wrong == 0 ? "the room is kept to" : wrong + " runs are too dear");
        if (wrong != 0) System.exit(1);
    }

    private static void room(String name, Runnable run, long most) {
        com.sun.management.ThreadMXBean bean = (com.sun.management.ThreadMXBean) ManagementFactory.getThreadMXBean();
        run.run();
        long id = Thread.currentThread().getId();
        long before = bean.getThreadAllocatedBytes(id);
        run.run();
        long made = bean.getThreadAllocatedBytes(id) - before;
        System.out.println(name + ": " + made + " bytes");
        if (made > most) {
            wrong++;
            System.out.println("that is too much");
        }
    }

    private static void tellMuch() {
        TwoLevels x = new TwoLevels();
        StringBuilder s = new StringBuilder("A=AAA|BBB|a|;B=||b|A");
        for (int r = 0; r < 10; r++) s.append(";a:a,a,a,a/A,B,A,B/A,a,b,c/a,b,c,d");
        for (int calls = 0; calls < 512; calls += 22) {
            Calls.put(x, s.toString());
            if (x.tell() != 10) wrong++;
        }
    }

    private static void tellOften() {
        TwoLevels x = new TwoLevels();
        int[] n = Calls.twenty("A=|||;B=|||;a:///;b:", 0);
        for (int k = 0; k < 256; k++) {
            x.feed(n[0], n[1], n[2], n[3], n[4]);
            if (x.tell() != 2) wrong++;
        }
    }

    private static void actAndSearch() {
        TwoLevels x = new TwoLevels();
        Calls.tell(x, "N=i|iN;s:aN,bN;aiN:\"a,aN;ai:\"a;biN:\"b,bN;bi:\"b");
        Calls.notion(x, "s");
        Calls.text(x, "a a a a b b b b");
        for (int k = 0; k < 120; k++) {
            x.swap(k % 4, 1 + k % 4);
            x.settle(0, 4 + k % 8);
            x.derives();
            x.keep(k % 2);
        }
    }

    private static void searchDeep() {
        TwoLevels x = new TwoLevels();
        Calls.tell(x, "N=|aN|bN;s:N,N,s,N/\"x;N:s,s,s,s/N,N,N,N/;NaN:N,s");
        Calls.notion(x, "abaabbabab");
        Calls.text(x, "x x x x x x x x");
        for (int k = 0; k < 160; k++) {
            x.settle(0, 1 + k % 12);
            x.derives();
            x.least();
        }
    }

    private static void oddCalls(Random random) {
        int[] odd = {Integer.MIN_VALUE, Integer.MIN_VALUE + 1, -3, -2, -1, 0, 1, 2, 3, 4, 10, 11, 12, 65, 66, 90, 91, 500, Integer.MAX_VALUE - 1, Integer.MAX_VALUE};
        TwoLevels x = new TwoLevels();
        for (int k = 0; k < 2000; k++) {
            if (k % 50 == 0) {
                x.end(0);
                Calls.tell(x, k % 100 == 0 ? Texts.known(random) : Texts.grammar(random));
                Calls.notion(x, "abab".substring(random.nextInt(4)));
                Calls.text(x, "a b a".substring(random.nextInt(5)));
            }
            int which = random.nextInt(Calls.NAMES.length);
            int[] call = new int[1 + Calls.ARGUMENTS[which]];
            call[0] = which;
            for (int i = 1; i < call.length; i++) call[i] = random.nextInt(4) == 0 ? random.nextInt() : odd[random.nextInt(odd.length)];
            Calls.call(x, call);
        }
    }

    /** Many ASSIGNMENTS, many FREE words, and all of them in vain: it must end soon all the same. */
    private static void wide() {
        long start = System.nanoTime();
        TwoLevels x = new TwoLevels();
        StringBuilder s = new StringBuilder("A=|aA;B=A;C=A;D=A;E=a|b|c|d;F=E|EE");
        for (int r = 0; r < 10; r++) s.append(";ABCD:\"x,EF/\"y,FE/\"EF/\"Fzzz");
        if (Calls.tell(x, s.toString()) != 10) wrong++;
        Calls.notion(x, "aaaaaaaaaa");
        Calls.text(x, "a");
        x.derives();
        x.least();
        System.out.println("a wide search took " + (System.nanoTime() - start) / 1000000 + " ms");
    }

    /** The same at each of 500 STEPS: the dearest search that is known. */
    private static void wideOften() {
        long start = System.nanoTime();
        TwoLevels x = new TwoLevels();
        StringBuilder s = new StringBuilder("A=|aA|bA|cA;B=A;C=A;D=A;E=A;F=A;s:aaaaEF/aabaEF");
        for (int r = 0; r < 9; r++) s.append(";ABCD:\"EF/\"FE/\"EEF/\"FFE");
        if (Calls.tell(x, s.toString()) != 10) wrong++;
        x.settle(1, 3);
        Calls.notion(x, "s");
        Calls.text(x, "aazzzzz");
        if (x.derives() != -3) wrong++;
        long took = (System.nanoTime() - start) / 1000000;
        System.out.println("a wide search at each STEP took " + took + " ms");
        if (took > 120000) wrong++;
    }
}
