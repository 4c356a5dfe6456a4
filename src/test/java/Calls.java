/** Calls of the class by number, with their names, and how a text comes on the TAPE. */
final class Calls {
    static final String[] NAMES = {
        "feed", "end", "tell", "notion", "text", "settle", "drop", "swap", "undo", "keep", "back", "letter", "meta",
        "word", "is", "span", "rule", "head", "choice", "heads", "assigned", "blind", "holds", "derives", "steps",
        "least", "node", "spelled", "free", "checked", "count"
    };
    static final int[] ARGUMENTS = {
        5, 1, 0, 0, 0, 2, 1, 2, 0, 1, 1, 2, 2, 3, 1, 3, 2, 2, 3, 1, 4, 0, 0, 0, 1, 0, 2, 2, 3, 0, 1
    };

    private Calls() {
    }

    static int call(TwoLevels x, int[] c) {
        switch (c[0]) {
            case 0: return x.feed(c[1], c[2], c[3], c[4], c[5]);
            case 1: return x.end(c[1]);
            case 2: return x.tell();
            case 3: return x.notion();
            case 4: return x.text();
            case 5: return x.settle(c[1], c[2]);
            case 6: return x.drop(c[1]);
            case 7: return x.swap(c[1], c[2]);
            case 8: return x.undo();
            case 9: return x.keep(c[1]);
            case 10: return x.back(c[1]);
            case 11: return x.letter(c[1], c[2]);
            case 12: return x.meta(c[1], c[2]);
            case 13: return x.word(c[1], c[2], c[3]);
            case 14: return x.is(c[1]);
            case 15: return x.span(c[1], c[2], c[3]);
            case 16: return x.rule(c[1], c[2]);
            case 17: return x.head(c[1], c[2]);
            case 18: return x.choice(c[1], c[2], c[3]);
            case 19: return x.heads(c[1]);
            case 20: return x.assigned(c[1], c[2], c[3], c[4]);
            case 21: return x.blind();
            case 22: return x.holds();
            case 23: return x.derives();
            case 24: return x.steps(c[1]);
            case 25: return x.least();
            case 26: return x.node(c[1], c[2]);
            case 27: return x.spelled(c[1], c[2]);
            case 28: return x.free(c[1], c[2], c[3]);
            case 29: return x.checked();
            case 30: return x.count(c[1]);
            default: throw new IllegalArgumentException("call " + c[0]);
        }
    }

    static String show(int[] c) {
        StringBuilder s = new StringBuilder(NAMES[c[0]]).append('(');
        for (int i = 1; i < c.length; i++) s.append(i > 1 ? ", " : "").append(c[i]);
        return s.append(')').toString();
    }

    /** The five numbers of the twenty bytes of a text from a place on; zeros behind its end. */
    static int[] twenty(String text, int from) {
        int[] five = new int[5];
        for (int i = 0; i < 20; i++) {
            int b = from + i < text.length() ? text.charAt(from + i) & 255 : 0;
            five[i / 4] = five[i / 4] << 8 | b;
        }
        return five;
    }

    /** Puts a text on an empty TAPE. */
    static void put(TwoLevels x, String text) {
        for (int from = 0; from < text.length(); from += 20) {
            int[] n = twenty(text, from);
            x.feed(n[0], n[1], n[2], n[3], n[4]);
        }
        x.end(text.length());
    }

    static int tell(TwoLevels x, String text) {
        put(x, text);
        return x.tell();
    }

    static int notion(TwoLevels x, String text) {
        put(x, text);
        return x.notion();
    }

    static int text(TwoLevels x, String text) {
        put(x, text);
        return x.text();
    }
}
