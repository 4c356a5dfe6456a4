import java.util.ArrayList;
import java.util.List;
import java.util.Random;

/** Runs of calls, made by numbers from fixed seeds, on the class and on the Model: all answers must be alike. */
public final class ModelRuns {
    private static int answers;
    private static final int[] SEEN = new int[64];

    private final Random random;
    private final TwoLevels x = new TwoLevels();
    private final Model model = new Model();
    private final List<String> told = new ArrayList<>();
    private boolean wrong;
    private String grammar = "";

    private ModelRuns(long seed) {
        random = new Random(seed);
    }

    public static void main(String[] args) {
        int runs = Integer.getInteger("runs", 1500);
        long first = Long.getLong("seed", 1L);
        int bad = 0;
        for (long seed = first; seed < first + runs && bad < 5; seed++) {
            ModelRuns run = new ModelRuns(seed);
            run.go();
            if (run.wrong) {
                bad++;
                System.out.println("seed " + seed + ":");
                int from = Math.max(0, run.told.size() - 12);
                for (String line : run.told.subList(from, run.told.size())) System.out.println("  " + line);
            }
        }
        System.out.println(bad == 0 ? answers + " answers are as the model's" : bad + " runs are not as the model's");
        if (Boolean.getBoolean("tell")) {
            for (int i = 0; i < Calls.NAMES.length; i++) System.out.println(Calls.NAMES[i] + " useful: " + SEEN[i]);
            System.out.println("derived " + SEEN[40] + ", not " + SEEN[41] + ", over " + SEEN[42] + ", tells refused by kind "
                + SEEN[51] + " " + SEEN[52] + " " + SEEN[53] + " " + SEEN[54] + " " + SEEN[55]);
        }
        if (bad != 0) System.exit(1);
    }

    private int same(int... c) {
        int got = Calls.call(x, c);
        int want = model.call(c);
        answers++;
        if (want >= 0) SEEN[c[0]]++;
        if (c[0] == 23) SEEN[want == 1 ? 40 : want == 0 ? 41 : 42]++;
        if (c[0] == 2 && want <= -2) SEEN[50 + (-2 - want) % 8]++;
        told.add(Calls.show(c) + " answered " + got + ", the model " + want);
        wrong |= got != want;
        return want;
    }

    private void put(String text) {
        for (int from = 0; from < text.length(); from += 20) {
            int[] n = Calls.twenty(text, from);
            same(0, n[0], n[1], n[2], n[3], n[4]);
        }
        same(1, text.length());
    }

    private int below(int n) {
        return random.nextInt(n);
    }

    private boolean chance(int percent) {
        return below(100) < percent;
    }

    private void go() {
        int rounds = 2 + below(4);
        for (int round = 0; round < rounds && !wrong; round++) {
            empty();
            grammar = chance(15) ? strange(Texts.grammar(random)) : chance(25) ? Texts.known(random) : Texts.grammar(random);
            told.add("text: " + grammar);
            put(grammar);
            same(2);
            int asks = 3 + below(6);
            for (int ask = 0; ask < asks && !wrong; ask++) {
                question();
                if (chance(30)) sweepDerivation();
                if (chance(10)) sweepHeads();
                if (chance(5)) sweepWords();
                for (int i = 0; i < 14 && !wrong; i++) look();
                for (int i = below(3); i > 0 && !wrong; i--) change();
                for (int i = 0; i < 8 && !wrong; i++) look();
            }
        }
    }

    private void empty() {
        if (x.count(8) != 0) same(1, 0);
    }

    /** A text with some bytes changed, put in or left out. */
    private String strange(String text) {
        StringBuilder s = new StringBuilder(text);
        for (int i = 1 + below(3); i > 0; i--) {
            String signs = "abcABCN=|:/,;\" #" + (char) 0 + (char) 200;
            char c = signs.charAt(below(signs.length()));
            int at = below(s.length() + 1);
            if (chance(40)) s.insert(at, c);
            else if (at < s.length() && chance(50)) s.setCharAt(at, c);
            else if (at < s.length()) s.deleteCharAt(at);
        }
        return s.length() > 500 ? s.substring(0, 500) : s.toString();
    }

    private void question() {
        if (chance(85)) {
            empty();
            String notion = Texts.notion(random, model);
            put(chance(3) ? strange(notion) : notion);
            same(3);
        }
        if (chance(70)) {
            empty();
            String text = Texts.words(random, model);
            put(chance(3) ? strange(text) : text);
            same(4);
        }
    }

    private void sweepDerivation() {
        int nodes = Math.min(12, same(26, -1, 0));
        for (int k = 0; k < nodes; k++) {
            for (int what = 0; what < 8; what++) same(26, k, what);
            for (int i = 0; i <= x.node(k, 6); i++) same(27, k, i);
            for (char name : Texts.NAMES.toCharArray()) {
                for (int i = -1; i < 3; i++) same(28, k, name, i);
            }
        }
        for (int what = 0; what < 4; what++) same(24, what);
        same(29);
    }

    private void sweepHeads() {
        for (int r = 0; r < model.all.rules.size(); r++) {
            int many = same(19, r);
            for (int k = 0; k <= Math.min(many, 12); k++) {
                for (char name : Texts.NAMES.toCharArray()) {
                    int size = same(20, r, k, name, -1);
                    if (size > 0) same(20, r, k, name, below(size + 1));
                }
            }
        }
    }

    private void sweepWords() {
        for (char name : Texts.NAMES.toCharArray()) {
            for (int what = 0; what < 5; what++) same(12, name, what);
            for (int k = 0; k <= 20; k++) {
                for (int i = -1; i < 3; i++) same(13, name, k, i);
            }
            for (int from = 0; from <= model.all.notion.length(); from++) {
                for (int many = 0; from + many <= model.all.notion.length(); many++) same(15, name, from, many);
            }
        }
    }

    private void change() {
        switch (below(9)) {
            case 0: case 1: same(5, 0, below(15) - 1); break;
            case 2: case 3: same(5, below(20) == 0 ? below(5) - 2 : 1, below(6) - 1); break;
            case 4: same(6, below(7) - 1); break;
            case 5: same(7, below(7) - 1, below(7) - 1); break;
            case 6: same(8); break;
            case 7: same(9, below(4) - 1); break;
            default: if (chance(50)) same(10, below(4) - 1); else same(8); break;
        }
    }

    private int name() {
        return chance(90) ? Texts.NAMES.charAt(below(Texts.NAMES.length())) : 60 + below(65);
    }

    private void look() {
        int r = below(12) - 1;
        switch (below(24)) {
            case 0: same(11, below(11) - 2, below(13) - 2); break;
            case 1: case 2: same(12, name(), below(7) - 1); break;
            case 3: case 4: same(13, name(), below(23) - 1, below(6) - 2); break;
            case 5: same(14, name()); break;
            case 6: same(15, name(), below(7) - 1, below(7) - 1); break;
            case 7: same(16, r, below(5) - 1); break;
            case 8: same(17, r, below(9) - 1); break;
            case 9: same(18, r, below(6) - 1, below(5) - 1); break;
            case 10: same(19, r); break;
            case 11: case 12: same(20, r, below(5) - 1, name(), below(6) - 2); break;
            case 13: same(21); break;
            case 14: same(22); break;
            case 15: same(23); break;
            case 16: same(24, below(6) - 1); break;
            case 17: same(25); break;
            case 18: case 19: same(26, below(12) - 1, chance(20) ? 0 : below(10) - 1); break;
            case 20: same(27, below(10) - 1, below(6) - 1); break;
            case 21: same(28, below(6) - 1, name(), below(5) - 1); break;
            case 22: same(29); break;
            default: same(30, below(13) - 1); break;
        }
    }
}
