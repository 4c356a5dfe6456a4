import java.util.Arrays;

/**
 * A grammar of two levels: rules with METANOTIONS that stand for words of an upper grammar,
 * and a search that derives texts by them. The document (DOC.md) says what each call answers.
 */
public final class TwoLevels {
    public static final int NONE = -1;

    private static final int NOT_SO = -2;
    private static final int OVER = -3;
    private static final int UNKNOWN = -4;
    private static final int TAPE_BYTES = 500;
    private static final int TEXT_WORDS = 8;
    private static final int ACTS = 10;
    private static final int SHELVES = 2;
    private static final int FIRST_DEPTH = 6;
    private static final int MOST_DEPTH = 12;
    private static final int FIRST_LONG = 2;
    private static final int MOST_LONG = 3;
    private static final int BLANK = ' ';
    /** What a FAULT has for each place along the text. */
    private static final int PLACE = 8;
    /** Far above what any run can need: it only shows that a loop ends. */
    private static final int MILLION = 1000000;

    private final int[] tape = new int[TAPE_BYTES];
    private int taped;
    private final Reader reader = new Reader();

    private State state = new State(new Upper(), new Rule[0], FIRST_DEPTH, FIRST_LONG);
    private long theNotion;
    private long[] theText = new long[0];
    private final long[] heard = new long[TEXT_WORDS];

    private final State[] past = new State[ACTS];
    private int acts;
    private final Shelf[] shelves = new Shelf[SHELVES];

    private final Fit sight = new Fit(state.upper);
    private final Search derivation;
    private final Search probe;

    /** Answers of searches, kept until something changes on which they depend. */
    private int derived = UNKNOWN;
    private int held = UNKNOWN;
    private int leastFound = UNKNOWN;

    public TwoLevels() {
        Fit[] fits = new Fit[MOST_DEPTH];
        for (int level = 0; level < MOST_DEPTH; level++) {
            fits[level] = new Fit(state.upper);
        }
        derivation = new Search(state, fits);
        probe = new Search(state, fits);
    }

    // ---- the tape ----

    public int feed(int a, int b, int c, int d, int e) {
        if (taped + 20 > TAPE_BYTES) {
            return NONE;
        }
        putBytes(a);
        putBytes(b);
        putBytes(c);
        putBytes(d);
        putBytes(e);
        return taped;
    }

    private void putBytes(int four) {
        for (int shift = 24; shift >= 0; shift -= 8) {
            tape[taped] = (four >>> shift) & 255;
            taped++;
        }
    }

    public int end(int n) {
        if (n < 0 || n > taped) {
            return NONE;
        }
        taped = n;
        return n;
    }

    public int tell() {
        int fault = reader.read(tape, taped);
        taped = 0;
        if (fault != 0) {
            return NOT_SO - fault;
        }
        state = new State(reader.upper, reader.takeRules(), state.depth, state.longest);
        theNotion = 0;
        theText = new long[0];
        acts = 0;
        forget();
        return state.rules.length;
    }

    public int notion() {
        int size = taped;
        taped = 0;
        long row = 0;
        for (int i = 0; i < size; i++) {
            if (!Rows.isSmall(tape[i])) {
                return refusal(i, 1);
            }
            if (i >= Rows.MOST) {
                return refusal(i, 2);
            }
            row = Rows.add(row, tape[i]);
        }
        theNotion = row;
        forget();
        return size;
    }

    public int text() {
        int size = taped;
        taped = 0;
        int words = 0;
        int letters = 0;
        for (int i = 0; i < size; i++) {
            if (tape[i] == BLANK) {
                letters = 0;
                continue;
            }
            int kind = faultInText(tape[i], letters, words);
            if (kind != 0) {
                return refusal(i, kind);
            }
            if (letters == 0) {
                heard[words] = 0;
                words++;
            }
            heard[words - 1] = Rows.add(heard[words - 1], tape[i]);
            letters++;
        }
        theText = Arrays.copyOf(heard, words);
        forget();
        return words;
    }

    private static int refusal(int place, int kind) {
        return NOT_SO - (PLACE * place + kind);
    }

    private static int faultInText(int sign, int letters, int words) {
        if (!Rows.isSmall(sign)) {
            return 1;
        }
        if (letters >= Rows.MOST) {
            return 2;
        }
        return letters == 0 && words >= TEXT_WORDS ? 3 : 0;
    }

    // ---- acts and shelves ----

    public int settle(int what, int value) {
        if (what == 0 && value >= 1 && value <= MOST_DEPTH) {
            int was = state.depth;
            return was == value ? NOT_SO : act(new State(state.upper, state.rules, value, state.longest), was);
        }
        if (what == 1 && value >= 0 && value <= MOST_LONG) {
            int was = state.longest;
            return was == value ? NOT_SO : act(new State(state.upper, state.rules, state.depth, value), was);
        }
        return NONE;
    }

    public int drop(int rule) {
        return state.hasRule(rule) ? act(state.without(rule), state.rules.length - 1) : NONE;
    }

    public int swap(int rule, int other) {
        if (!state.hasRule(rule) || !state.hasRule(other)) {
            return NONE;
        }
        return rule == other ? NOT_SO : act(state.swapped(rule, other), 1);
    }

    private void forget() {
        derived = UNKNOWN;
        held = UNKNOWN;
        leastFound = UNKNOWN;
    }

    private int act(State next, int answer) {
        if (acts == ACTS) {
            for (int i = 1; i < ACTS; i++) {
                past[i - 1] = past[i];
            }
            acts--;
        }
        past[acts] = state;
        acts++;
        state = next;
        forget();
        return answer;
    }

    public int undo() {
        if (acts == 0) {
            return NONE;
        }
        acts--;
        State before = past[acts];
        if (before != null) {
            state = before;
        }
        forget();
        return acts;
    }

    public int keep(int shelf) {
        if (shelf < 0 || shelf >= SHELVES) {
            return NONE;
        }
        shelves[shelf] = new Shelf(state, theNotion, theText);
        return state.rules.length;
    }

    public int back(int shelf) {
        if (shelf < 0 || shelf >= SHELVES) {
            return NONE;
        }
        Shelf kept = shelves[shelf];
        if (kept == null) {
            return NOT_SO;
        }
        state = kept.state;
        theNotion = kept.row;
        theText = kept.words;
        acts = 0;
        forget();
        return state.rules.length;
    }

    // ---- what is there ----

    public int letter(int k, int i) {
        if (k < NONE || k >= theText.length || i < 0) {
            return NONE;
        }
        return letterOr(k == NONE ? theNotion : theText[k], i, NOT_SO);
    }

    private static int letterOr(long row, int i, int otherwise) {
        int size = Rows.size(row);
        return i >= 0 && i < size ? Rows.byteAt(row, size, i) : otherwise;
    }

    /** A letter, or for NONE how many there are. */
    private static int letterOrSize(long row, int i, int otherwise) {
        return i == NONE ? Rows.size(row) : letterOr(row, i, otherwise);
    }

    public int meta(int name, int what) {
        int slot = state.upper.slotOf(name);
        if (slot == NONE) {
            return NONE;
        }
        switch (what) {
            case 0:
                return state.upper.alternatives(slot);
            case 1:
                return state.upper.hasMany(slot, state.longest);
            case 2:
                return state.upper.hasMany(slot, 0);
            case 3:
                return (state.upper.barren() >> slot & 1) == 0 ? 1 : 0;
            case 4:
                return state.rulesWith(slot);
            default:
                return NONE;
        }
    }

    public int word(int name, int k, int i) {
        int slot = state.upper.slotOf(name);
        if (slot == NONE || k < 0 || i < NONE) {
            return NONE;
        }
        if (k >= state.upper.hasMany(slot, state.longest)) {
            return NOT_SO;
        }
        return letterOrSize(state.upper.hasWord(slot, k), i, NOT_SO);
    }

    public int is(int name) {
        return spans(name, 0, Rows.size(theNotion));
    }

    public int span(int name, int from, int many) {
        int size = Rows.size(theNotion);
        if (from < 0 || many < 0 || from > size || many > size - from) {
            return NONE;
        }
        return spans(name, from, many);
    }

    private int spans(int name, int from, int many) {
        int slot = state.upper.slotOf(name);
        if (slot == NONE) {
            return NONE;
        }
        sight.load(state.upper, theNotion);
        return sight.isWord(slot, from, from + many) ? 1 : 0;
    }

    public int rule(int rule, int what) {
        if (!state.hasRule(rule)) {
            return NONE;
        }
        Rule one = state.rules[rule];
        switch (what) {
            case 0:
                return one.signs.length;
            case 1:
                return one.size;
            case 2:
                return state.upper.letterBits(one.bits);
            default:
                return NONE;
        }
    }

    public int head(int rule, int i) {
        if (!state.hasRule(rule) || i < 0) {
            return NONE;
        }
        int[] signs = state.rules[rule].signs;
        return i < signs.length ? state.upper.byteOf(signs[i]) : NOT_SO;
    }

    public int choice(int rule, int choice, int what) {
        if (!state.hasRule(rule) || choice < 0 || choice >= state.rules[rule].size) {
            return NONE;
        }
        Choice one = state.rules[rule].choices[choice];
        switch (what) {
            case 0:
                return one.size;
            case 1:
                return state.upper.letterBits(one.freeBits);
            case 2:
                return Integer.bitCount(one.tokens);
            default:
                return NONE;
        }
    }

    public int count(int what) {
        switch (what) {
            case 0:
                return state.upper.size;
            case 1:
                return state.rules.length;
            case 2:
                return state.alternatives();
            case 3:
                return theText.length;
            case 4:
                return Rows.size(theNotion);
            case 5:
                return state.depth;
            case 6:
                return state.longest;
            case 7:
                return acts;
            case 8:
                return taped;
            case 9:
                return (shelves[0] == null ? 0 : 1) + (shelves[1] == null ? 0 : 2);
            case 10:
                return state.upper.letterBits(state.upper.barren());
            default:
                return NONE;
        }
    }

    // ---- what a head can stand for ----

    public int heads(int rule) {
        if (!state.hasRule(rule)) {
            return NONE;
        }
        sight.load(state.upper, theNotion);
        sight.begin(state.rules[rule]);
        int found = 0;
        while (found < MILLION && sight.next()) {
            found++;
        }
        return found;
    }

    public int assigned(int rule, int k, int name, int i) {
        if (!state.hasRule(rule) || k < 0 || i < NONE) {
            return NONE;
        }
        int slot = state.upper.slotOf(name);
        if (slot == NONE || (state.rules[rule].bits >> slot & 1) == 0) {
            return NONE;
        }
        sight.load(state.upper, theNotion);
        if (!sight.reach(state.rules[rule], k)) {
            return NOT_SO;
        }
        return letterOrSize(sight.values[slot], i, NOT_SO);
    }

    public int blind() {
        sight.load(state.upper, theNotion);
        int bits = 0;
        for (int r = 0; r < state.rules.length; r++) {
            if (sight.reach(state.rules[r], 0)) {
                bits |= 1 << r;
            }
        }
        return bits;
    }

    // ---- what the notion derives ----

    public int holds() {
        if (held == UNKNOWN) {
            held = probe.run(state, state.depth, theNotion, theText, 0);
        }
        return held;
    }

    public int derives() {
        if (derived == UNKNOWN) {
            derived = derivation.run(state, state.depth, theNotion, theText, theText.length);
        }
        return derived;
    }

    public int steps(int what) {
        if (what < 0 || what > 3) {
            return NONE;
        }
        if (derives() == OVER) {
            return OVER;
        }
        switch (what) {
            case 0:
                return derivation.asked;
            case 1:
                return derivation.blinds;
            case 2:
                return derivation.ends;
            default:
                return derivation.deepest;
        }
    }

    public int least() {
        if (leastFound == UNKNOWN) {
            leastFound = findLeast();
        }
        return leastFound;
    }

    private int findLeast() {
        for (int depth = 1; depth <= MOST_DEPTH; depth++) {
            int answer = probe.run(state, depth, theNotion, theText, theText.length);
            if (answer == OVER) {
                return OVER;
            }
            if (answer == 1) {
                return depth;
            }
            // A search that never came to the end of DEPTH is the same by any greater one.
            if (probe.ends == 0) {
                return NOT_SO;
            }
        }
        return NOT_SO;
    }

    public int node(int k, int what) {
        if (derives() != 1) {
            return NONE;
        }
        if (k == NONE && what == 0) {
            return derivation.size;
        }
        Node node = derivation.nodeOrNull(k);
        if (node == null) {
            return NONE;
        }
        switch (what) {
            case 0:
                return node.rule;
            case 1:
                return node.alternative;
            case 2:
                return node.number;
            case 3:
                return node.from;
            case 4:
                return node.many;
            case 5:
                return node.above;
            case 6:
                return Rows.size(node.row);
            case 7:
                return node.level;
            default:
                return NONE;
        }
    }

    public int spelled(int k, int i) {
        Node node = derives() == 1 ? derivation.nodeOrNull(k) : null;
        return node == null ? NONE : letterOr(node.row, i, NONE);
    }

    public int free(int k, int name, int i) {
        Node node = derives() == 1 ? derivation.nodeOrNull(k) : null;
        if (node == null || node.choice == null) {
            return NONE;
        }
        int f = node.choice.freeAt(state.upper.slotOf(name));
        return f == NONE ? NONE : letterOrSize(node.stands[f], i, NONE);
    }

    public int checked() {
        return derives() == 1 ? derivation.firstWrong(theNotion, theText.length) : NOT_SO;
    }

    /**
     * Rows of small letters as numbers, five bits a letter, the first the highest: of two rows the lesser
     * number is the shorter row or, of one length, the one ahead by letters, and equal numbers are equal rows.
     */
    private static final class Rows {
        static final int MOST = 10;
        static final int BITS = 5;
        static final long TOO_LONG = -1;

        static boolean isSmall(int sign) {
            return sign >= 'a' && sign <= 'z';
        }

        static boolean isCapital(int sign) {
            return sign >= 'A' && sign <= 'Z';
        }

        static int size(long row) {
            int size = 0;
            for (long rest = row; rest > 0 && size < MOST; rest >>= BITS) {
                size++;
            }
            return size;
        }

        static long add(long row, int small) {
            return row << BITS | (small - 'a' + 1);
        }

        /** The number of a letter, a the first: 1 to 26. */
        static int numberAt(long row, int size, int i) {
            return (int) (row >> (BITS * (size - 1 - i))) & 31;
        }

        static int byteAt(long row, int size, int i) {
            return numberAt(row, size, i) + 'a' - 1;
        }

        static long part(long row, int size, int from, int to) {
            long upTo = row >> (BITS * (size - to));
            return upTo & ((1L << (BITS * (to - from))) - 1);
        }
    }

    /** The first of many rows, each once, in their order. */
    private static final class Firsts {
        static final int MOST = 20;

        final int[] rows = new int[MOST];
        int size;

        /** Whether the row came in: it was not there, and is one of the first. */
        boolean put(int row) {
            int at = size;
            while (at > 0 && rows[at - 1] >= row) {
                at--;
            }
            if (at == MOST || at < size && rows[at] == row) {
                return false;
            }
            if (size < MOST) {
                size++;
            }
            for (int i = size - 1; i > at; i--) {
                rows[i] = rows[i - 1];
            }
            rows[at] = row;
            return true;
        }

        void setOnly(int row) {
            rows[0] = row;
            size = 1;
        }

        /**
         * The first rows of a left one and a right one, not too long. A row that is not one of the first 20
         * of its side is not needed: the 20 ahead of it make 20 rows ahead of any that it makes.
         */
        void setJoined(Firsts left, Firsts right) {
            size = 0;
            for (int i = 0; i < left.size; i++) {
                int room = MOST_LONG - Rows.size(left.rows[i]);
                for (int j = 0; j < right.size; j++) {
                    int more = Rows.size(right.rows[j]);
                    int row = left.rows[i] << (Rows.BITS * more) | right.rows[j];
                    if (more > room || size == MOST && row > rows[MOST - 1]) {
                        break;
                    }
                    put(row);
                }
            }
        }
    }

    /**
     * The upper grammar: METANOTIONS with their alternatives, and the words that they HAVE. A capital has a
     * slot from where it is first seen, told or not; when a whole GRAMMAR is read all that were seen are told.
     * A SIGN is kept as a number: 1 to 26 a small letter, from CAPITAL on the slots; and sets of METANOTIONS
     * as bits, by slots.
     */
    private static final class Upper {
        static final int MOST = 6;
        static final int ALTERNATIVES = 4;
        static final int CAPITAL = 32;
        private static final int LETTERS = 26;

        private final int[] slots = new int[LETTERS];
        private final int[] names = new int[LETTERS];
        private final int[][] rows = new int[MOST * ALTERNATIVES][];
        private final int[] many = new int[MOST];
        private Firsts[] words = new Firsts[0];
        private int told;
        int size;

        /** The slot of a capital, NONE if it was not seen. */
        int slotOf(int name) {
            return name >= 'A' && name <= 'Z' ? slots[name - 'A'] - 1 : NONE;
        }

        /** The SIGN of a byte, 0 if it is none. */
        int signOf(int letter) {
            if (letter >= 'a' && letter <= 'z') {
                return letter - 'a' + 1;
            }
            if (letter < 'A' || letter > 'Z') {
                return 0;
            }
            int at = letter - 'A';
            if (slots[at] == 0) {
                names[size] = letter;
                size++;
                slots[at] = size;
            }
            return CAPITAL + slots[at] - 1;
        }

        int byteOf(int sign) {
            return sign < CAPITAL ? sign + 'a' - 1 : names[sign - CAPITAL];
        }

        static int bitOf(int sign) {
            return sign < CAPITAL ? 0 : 1 << (sign - CAPITAL);
        }

        static int bitsOf(int[] signs) {
            int bits = 0;
            for (int sign : signs) {
                bits |= sign < CAPITAL ? 0 : 1 << (sign - CAPITAL);
            }
            return bits;
        }

        /** Bits by slots as bits by letters, A the lowest. */
        int letterBits(int bits) {
            int found = 0;
            for (int slot = 0; slot < size; slot++) {
                found |= (bits >> slot & 1) << (names[slot] - 'A');
            }
            return found;
        }

        boolean isTold(int sign) {
            return (told & bitOf(sign)) != 0;
        }

        int toldMany() {
            return Integer.bitCount(told);
        }

        void setTold(int sign) {
            told |= bitOf(sign);
        }

        /** Nothing is kept of a seventh capital: not all of seven can be told. */
        void addRow(int sign, int[] signs) {
            int slot = sign - CAPITAL;
            if (slot >= 0 && slot < MOST && many[slot] < ALTERNATIVES) {
                rows[slot * ALTERNATIVES + many[slot]] = signs;
                many[slot]++;
            }
        }

        int alternatives(int slot) {
            return many[slot];
        }

        int[] rowOf(int slot, int alternative) {
            return rows[slot * ALTERNATIVES + alternative];
        }

        /** METANOTIONS that no word comes of. */
        int barren() {
            int live = 0;
            for (int round = 0; round < size; round++) {
                for (int slot = 0; slot < size; slot++) {
                    for (int a = 0; a < many[slot]; a++) {
                        if ((bitsOf(rowOf(slot, a)) & ~live) == 0) {
                            live |= 1 << slot;
                        }
                    }
                }
            }
            return told & ~live;
        }

        /** How many words of at most so many letters are among the first 20: they stand ahead of all longer ones. */
        int hasMany(int slot, int longest) {
            Firsts of = words[slot];
            int found = 0;
            while (found < of.size && of.rows[found] < 1 << (Rows.BITS * longest)) {
                found++;
            }
            return found;
        }

        int hasWord(int slot, int k) {
            return words[slot].rows[k];
        }

        /** To be called once, when all is told. */
        void findWords() {
            words = new Firsts[size];
            for (int slot = 0; slot < size; slot++) {
                words[slot] = new Firsts();
            }
            Firsts[] spare = {new Firsts(), new Firsts(), new Firsts()};
            boolean grown = size > 0;
            for (int round = 0; grown && round < MILLION; round++) {
                grown = false;
                for (int slot = 0; slot < size; slot++) {
                    for (int a = 0; a < many[slot]; a++) {
                        grown |= takeWords(words[slot], rowOf(slot, a), spare);
                    }
                }
            }
        }

        /** Takes what a row of signs makes of the words known so far; whether any was new. */
        private boolean takeWords(Firsts into, int[] signs, Firsts[] spare) {
            int now = 0;
            spare[now].setOnly(0);
            for (int sign : signs) {
                Firsts next = sign < CAPITAL ? spare[2] : words[sign - CAPITAL];
                if (sign < CAPITAL) {
                    next.setOnly(sign);
                }
                spare[1 - now].setJoined(spare[now], next);
                now = 1 - now;
            }
            boolean grown = false;
            for (int i = 0; i < spare[now].size; i++) {
                grown |= into.put(spare[now].rows[i]);
            }
            return grown;
        }
    }

    /** An alternative of a RULE. */
    private static final class Choice {
        static final int MEMBERS = 4;
        static final int FREES = 2;

        private final int bound;
        final int[][] members = new int[MEMBERS][];
        int size;
        int tokens;
        int bits;
        /** Slots of the FREE ones, in the order in which they stand. */
        final int[] frees = new int[FREES];
        int freed;
        int freeBits;
        /** Where each FREE one stands first: its MEMBER, and how many SIGNS of that are ahead of it. */
        final int[] freeMembers = new int[FREES];
        final int[] freeSigns = new int[FREES];
        /** How many TOKENS stand ahead of the first NOTION. */
        int ahead;

        /** The METANOTIONS of the HEAD are bound. */
        Choice(int bound) {
            this.bound = bound;
        }

        /** Whether a SIGN can stand at a place of the next MEMBER; not so the one of a third FREE METANOTION. */
        boolean admits(int sign, int place) {
            int bit = sign < Upper.CAPITAL ? 0 : 1 << (sign - Upper.CAPITAL);
            if ((bit & ~bound & ~freeBits) == 0) {
                return true;
            }
            if (freed == FREES) {
                return false;
            }
            frees[freed] = sign - Upper.CAPITAL;
            freeMembers[freed] = size;
            freeSigns[freed] = place;
            freed++;
            freeBits |= bit;
            return true;
        }

        void addMember(int[] signs, boolean token) {
            if (size < MEMBERS) {
                members[size] = signs;
                tokens |= token ? 1 << size : 0;
                bits |= Upper.bitsOf(signs);
                ahead += token && ahead == size ? 1 : 0;
                size++;
            }
        }

        boolean isToken(int member) {
            return (tokens >> member & 1) == 1;
        }

        /** Whether so many WORDS can do for the TOKENS ahead; if not so, no STEP comes of it. */
        boolean suits(int many) {
            return ahead == size ? many == size : many >= ahead;
        }

        int freeAt(int slot) {
            for (int f = 0; f < freed; f++) {
                if (frees[f] == slot) {
                    return f;
                }
            }
            return NONE;
        }
    }

    /** A RULE: its HEAD, and its alternatives. */
    private static final class Rule {
        static final int SIGNS = 6;
        static final int CHOICES = 4;

        final int[] signs;
        final int bits;
        /** Where the SIGN at a place stands first in the HEAD. */
        final int[] firsts;
        final Choice[] choices = new Choice[CHOICES];
        int size;

        Rule(int[] signs) {
            this.signs = signs;
            bits = Upper.bitsOf(signs);
            firsts = new int[signs.length];
            for (int i = 0; i < signs.length; i++) {
                while (firsts[i] < i && signs[firsts[i]] != signs[i]) {
                    firsts[i]++;
                }
            }
        }

        void addChoice(Choice choice) {
            if (size < CHOICES) {
                choices[size] = choice;
                size++;
            }
        }

        int allBits() {
            int all = bits;
            for (int c = 0; c < size; c++) {
                all |= choices[c].bits;
            }
            return all;
        }
    }

    /** GRAMMAR and SETTINGS. It is never changed: an ACT puts another one in its place. */
    private static final class State {
        final Upper upper;
        final Rule[] rules;
        final int depth;
        final int longest;

        State(Upper upper, Rule[] rules, int depth, int longest) {
            this.upper = upper;
            this.rules = rules;
            this.depth = depth;
            this.longest = longest;
        }

        boolean hasRule(int rule) {
            return rule >= 0 && rule < rules.length;
        }

        State without(int rule) {
            if (!hasRule(rule)) {
                return this;
            }
            Rule[] rest = new Rule[rules.length - 1];
            for (int i = 0; i < rest.length; i++) {
                rest[i] = rules[i < rule ? i : i + 1];
            }
            return new State(upper, rest, depth, longest);
        }

        State swapped(int rule, int other) {
            Rule[] moved = rules.clone();
            if (hasRule(rule) && hasRule(other)) {
                moved[rule] = rules[other];
                moved[other] = rules[rule];
            }
            return new State(upper, moved, depth, longest);
        }

        /** RULES in which a METANOTION stands, as bits. */
        int rulesWith(int slot) {
            int found = 0;
            for (int r = 0; r < rules.length; r++) {
                found |= (rules[r].allBits() >> slot & 1) << r;
            }
            return found;
        }

        int alternatives() {
            int all = 0;
            for (Rule rule : rules) {
                all += rule.size;
            }
            return all;
        }
    }

    /** What is KEPT on a SHELF. */
    private static final class Shelf {
        final State state;
        final long row;
        final long[] words;

        Shelf(State state, long row, long[] words) {
            this.state = state;
            this.row = row;
            this.words = words;
        }
    }

    /** Reads a GRAMMAR from the TAPE, up to the first place that is wrong. */
    private static final class Reader {
        private static final int RULES = 10;

        private int[] bytes = new int[0];
        private int size;
        private int at;
        private int fault;
        private final int[] signs = new int[Rule.SIGNS];
        private final Rule[] rules = new Rule[RULES];
        private int told;
        /** The alternative that is being read; null in a HEAD and in a METANOTION's ROW. */
        private Choice open;
        Upper upper = new Upper();

        /** The FAULT of the text; 0 if it has none, and then upper and takeRules have what it tells. */
        int read(int[] tape, int taped) {
            bytes = tape;
            size = Math.min(taped, tape.length);
            at = 0;
            fault = 0;
            told = 0;
            upper = new Upper();
            skipBlanks();
            boolean more = at < size;
            for (int part = 0; more && part <= TAPE_BYTES; part++) {
                more = readPart();
            }
            if (fault == 0) {
                findStranger();
            }
            if (fault == 0) {
                upper.findWords();
            }
            return fault;
        }

        Rule[] takeRules() {
            Rule[] taken = new Rule[told];
            for (int i = 0; i < told; i++) {
                taken[i] = rules[i];
            }
            return taken;
        }

        /** Whether another PART must follow. */
        private boolean readPart() {
            open = null;
            skipBlanks();
            int begin = at;
            int many = readSigns();
            if (fault == 0) {
                if (sees('=') && many == 1 && signs[0] >= Upper.CAPITAL) {
                    readMetanotion(begin, signs[0]);
                } else if (sees(':') && many > 0) {
                    readRule(begin, many);
                } else {
                    failAt(at, 1);
                }
            }
            return fault == 0 && goesOver(';');
        }

        private void readMetanotion(int begin, int sign) {
            if (upper.isTold(sign)) {
                failAt(begin, 4);
                return;
            }
            if (upper.toldMany() == Upper.MOST) {
                failAt(begin, 3);
                return;
            }
            upper.setTold(sign);
            at++;
            boolean more = true;
            for (int k = 1; more && k <= Upper.ALTERNATIVES; k++) {
                int many = readSigns();
                upper.addRow(sign, Arrays.copyOf(signs, many));
                more = fault == 0 && goesOn('|', k == Upper.ALTERNATIVES);
            }
        }

        private void readRule(int begin, int many) {
            if (told == RULES) {
                failAt(begin, 3);
                return;
            }
            Rule rule = new Rule(Arrays.copyOf(signs, many));
            rules[told] = rule;
            told++;
            at++;
            boolean more = true;
            for (int k = 1; more && k <= Rule.CHOICES; k++) {
                rule.addChoice(readChoice(rule.bits));
                more = fault == 0 && goesOn('/', k == Rule.CHOICES);
            }
        }

        private Choice readChoice(int bound) {
            Choice choice = new Choice(bound);
            open = choice;
            skipBlanks();
            boolean more = at < size && !sees('/') && !sees(';');
            for (int k = 1; more && k <= Choice.MEMBERS; k++) {
                readMember(choice);
                more = fault == 0 && sees(',');
                if (more && k == Choice.MEMBERS) {
                    failAt(at, 3);
                } else if (more) {
                    at++;
                }
            }
            return choice;
        }

        private void readMember(Choice choice) {
            skipBlanks();
            boolean token = goesOver('"');
            int many = readSigns();
            if (many == 0) {
                failAt(at, 1);
            }
            if (fault == 0) {
                choice.addMember(Arrays.copyOf(signs, many), token);
            }
        }

        /** Whether another alternative follows; if not so, the PART must be at its end. */
        private boolean goesOn(int divider, boolean full) {
            if (at >= size || sees(';')) {
                return false;
            }
            if (!sees(divider)) {
                failAt(at, 1);
            } else if (full) {
                failAt(at, 3);
            } else {
                at++;
            }
            return fault == 0;
        }

        /** How many SIGNS stand here, with the blanks about them gone over. */
        private int readSigns() {
            int many = 0;
            skipBlanks();
            for (int turn = 0; turn <= Rule.SIGNS && fault == 0 && at < size; turn++) {
                int sign = upper.signOf(bytes[at]);
                if (sign == 0) {
                    break;
                }
                if (many == Rule.SIGNS) {
                    failAt(at, 2);
                } else if (open != null && !open.admits(sign, many)) {
                    failAt(at, 3);
                } else {
                    signs[many] = sign;
                    many++;
                    at++;
                    skipBlanks();
                }
            }
            return many;
        }

        private boolean sees(int sign) {
            return at < size && bytes[at] == sign;
        }

        private boolean goesOver(int sign) {
            boolean seen = sees(sign);
            at += seen ? 1 : 0;
            return seen;
        }

        private void skipBlanks() {
            while (at < size && bytes[at] == BLANK) {
                at++;
            }
        }

        /** All that is found later lies behind: only the first counts. */
        private void failAt(int place, int kind) {
            if (fault == 0) {
                fault = PLACE * place + kind;
            }
        }

        private void findStranger() {
            for (int i = 0; i < size; i++) {
                if (Rows.isCapital(bytes[i]) && !upper.isTold(upper.signOf(bytes[i]))) {
                    failAt(i, 5);
                }
            }
        }
    }

    /** Fits HEADS to one notion: which parts of it are words, and the ASSIGNMENTS of a RULE one by one. */
    private static final class Fit {
        private static final int PLACES = Rows.MOST + 1;

        private Upper upper;
        private long row;
        private int size;
        /** Where each letter stands, as bits. */
        private final int[] where = new int[Upper.CAPITAL];
        /** Where the words of a METANOTION from a place on can end, as bits; found when first needed. */
        private final int[] ends = new int[Upper.MOST * PLACES];
        private boolean spanned;

        private Rule rule;
        private boolean fresh;
        /** Where each SIGN of the HEAD begins, and the ends that are still to be tried for it. */
        private final int[] at = new int[Rule.SIGNS + 1];
        private final int[] left = new int[Rule.SIGNS];

        /** What METANOTIONS stand for: those of the HEAD by the ASSIGNMENT, FREE ones as put. */
        final long[] values = new long[Upper.MOST];
        private final int[] sizes = new int[Upper.MOST];

        Fit(Upper upper) {
            this.upper = upper;
        }

        void load(Upper from, long notion) {
            if (upper == from && row == notion) {
                return;
            }
            upper = from;
            row = notion;
            size = Rows.size(notion);
            spanned = false;
            Arrays.fill(where, 0);
            for (int i = 0; i < size; i++) {
                where[Rows.numberAt(row, size, i)] |= 1 << i;
            }
        }

        boolean isWord(int slot, int from, int to) {
            findSpans();
            return (ends[slot * PLACES + from] >> to & 1) == 1;
        }

        /** From the last place to the first: then all behind a place is known, but for what goes on from it itself. */
        private void findSpans() {
            if (spanned) {
                return;
            }
            spanned = true;
            Arrays.fill(ends, 0);
            for (int from = size; from >= 0; from--) {
                boolean grown = true;
                for (int round = 0; grown && round < MILLION; round++) {
                    grown = false;
                    for (int slot = 0; slot < upper.size; slot++) {
                        grown |= growSpans(slot, from);
                    }
                }
            }
        }

        private boolean growSpans(int slot, int from) {
            int place = slot * PLACES + from;
            int before = ends[place];
            for (int a = 0; a < upper.alternatives(slot); a++) {
                ends[place] |= walk(upper.rowOf(slot, a), from);
            }
            return ends[place] != before;
        }

        /** Where a row of SIGNS from a place on can end. */
        private int walk(int[] signs, int from) {
            int reached = 1 << from;
            for (int i = 0; i < signs.length && reached != 0; i++) {
                if (signs[i] < Upper.CAPITAL) {
                    reached = (reached & where[signs[i]]) << 1;
                    continue;
                }
                int first = (signs[i] - Upper.CAPITAL) * PLACES;
                int next = 0;
                for (int p = from; p <= size; p++) {
                    if ((reached >> p & 1) == 1) {
                        next |= ends[first + p];
                    }
                }
                reached = next;
            }
            return reached;
        }

        void begin(Rule of) {
            rule = of;
            fresh = true;
            Arrays.fill(left, 0);
            int first = of.signs[0];
            boolean fails = first < Upper.CAPITAL && (where[first] & 1) == 0;
            if (of.bits != 0 && !fails) {
                findSpans();
            }
        }

        boolean reach(Rule of, int number) {
            begin(of);
            boolean found = number >= 0;
            for (int k = 0; found && k <= number && k < MILLION; k++) {
                found = next();
            }
            return found;
        }

        /** The next ASSIGNMENT: forth as long as SIGNS fit, back to the last one that can end elsewhere. */
        boolean next() {
            if (rule == null) {
                return false;
            }
            int many = rule.signs.length;
            boolean forth = fresh;
            int s = fresh ? 0 : many - 1;
            fresh = false;
            for (int turn = 0; s >= 0 && turn < MILLION; turn++) {
                if (s == many) {
                    if (at[s] == size) {
                        setValues();
                        return true;
                    }
                    forth = false;
                } else {
                    forth = forth ? enters(s) : endsElsewhere(s);
                }
                s += forth ? 1 : -1;
            }
            return false;
        }

        private boolean enters(int s) {
            int sign = rule.signs[s];
            int from = at[s];
            if (sign < Upper.CAPITAL) {
                at[s + 1] = from + 1;
                return (where[sign] >> from & 1) == 1;
            }
            int first = rule.firsts[s];
            if (first < s) {
                return repeats(s, first);
            }
            left[s] = ends[(sign - Upper.CAPITAL) * PLACES + from];
            if (s == rule.signs.length - 1) {
                left[s] &= 1 << size;
            }
            return endsElsewhere(s);
        }

        private boolean repeats(int s, int first) {
            int to = at[s] + at[first + 1] - at[first];
            at[s + 1] = to;
            return to <= size
                && Rows.part(row, size, at[s], to) == Rows.part(row, size, at[first], at[first + 1]);
        }

        /** Takes the nearest end that was not tried: shorter words come first. */
        private boolean endsElsewhere(int s) {
            int lowest = left[s] & -left[s];
            if (lowest == 0) {
                return false;
            }
            left[s] ^= lowest;
            at[s + 1] = Integer.bitCount(lowest - 1);
            return true;
        }

        private void setValues() {
            for (int s = 0; s < rule.signs.length; s++) {
                int slot = rule.signs[s] - Upper.CAPITAL;
                if (slot >= 0 && rule.firsts[s] == s) {
                    put(slot, Rows.part(row, size, at[s], at[s + 1]));
                }
            }
        }

        void put(int slot, long word) {
            values[slot] = word;
            sizes[slot] = Rows.size(word);
        }

        /** The row of letters that the first so many SIGNS become. */
        long spell(int[] signs, int many) {
            long made = 0;
            int letters = 0;
            for (int i = 0; i < many && i < signs.length; i++) {
                int slot = signs[i] - Upper.CAPITAL;
                int more = slot < 0 ? 1 : sizes[slot];
                letters += more;
                if (letters > Rows.MOST) {
                    return Rows.TOO_LONG;
                }
                made = made << (Rows.BITS * more) | (slot < 0 ? signs[i] : values[slot]);
            }
            return made;
        }
    }

    /** A NODE of THE DERIVATION, or of what may become one. */
    private static final class Node {
        final int index;
        long row;
        int level;
        int above;
        int from;
        int many;
        int rule;
        int number;
        int alternative;
        Choice choice;
        /** What the FREE ones stand for, in the order in which they stand in the alternative. */
        final long[] stands = new long[Choice.FREES];

        Node(int index) {
            this.index = index;
        }
    }

    /** A SEARCH, told step by step. */
    private static final class Search {
        private static final int STEPS = 500;

        private State state;
        private int depth;
        private long[] words = new long[0];
        private final Fit[] fits;
        private boolean over;
        int asked;
        int blinds;
        int ends;
        int deepest;
        private final Node[] nodes = new Node[STEPS];
        int size;

        Search(State state, Fit[] fits) {
            this.state = state;
            this.fits = fits;
        }

        int run(State by, int deep, long notion, long[] text, int many) {
            state = by;
            depth = Math.min(deep, fits.length);
            words = text;
            over = false;
            asked = 0;
            blinds = 0;
            ends = 0;
            deepest = 0;
            size = 0;
            boolean so = ask(0, notion, 0, Math.min(many, text.length), NONE);
            return over ? OVER : so ? 1 : 0;
        }

        Node nodeOrNull(int k) {
            return k >= 0 && k < size ? nodes[k] : null;
        }

        /** A NODE stands while its notion is asked for; it goes, with all behind it, if the answer is no. */
        private Node openNode(int level, long row, int from, int many, int above) {
            Node node = nodes[size];
            if (node == null) {
                node = new Node(size);
                nodes[size] = node;
            }
            size++;
            node.level = level;
            node.row = row;
            node.from = from;
            node.many = many;
            node.above = above;
            return node;
        }

        private boolean ask(int level, long row, int from, int many, int above) {
            if (asked == STEPS || size == STEPS) {
                over = true;
                return false;
            }
            asked++;
            deepest = Math.max(deepest, level);
            if (level >= depth) {
                ends++;
                return false;
            }
            Node node = openNode(level, row, from, many, above);
            Fit fit = fits[level];
            fit.load(state.upper, row);
            boolean seen = false;
            for (int r = 0; r < state.rules.length && !over; r++) {
                Rule rule = state.rules[r];
                node.rule = r;
                fit.begin(rule);
                for (int number = 0; !over && number < MILLION && fit.next(); number++) {
                    seen = true;
                    node.number = number;
                    if (triesChoices(node, rule)) {
                        return true;
                    }
                }
            }
            blinds += seen ? 0 : 1;
            size = node.index;
            return false;
        }

        private boolean triesChoices(Node node, Rule rule) {
            for (int c = 0; c < rule.size && !over; c++) {
                node.alternative = c;
                node.choice = rule.choices[c];
                if (node.choice.suits(node.many) && triesFrees(node, node.choice, 0)) {
                    return true;
                }
            }
            return false;
        }

        /** Goes through what the FREE ones from the f-th on stand for. */
        private boolean triesFrees(Node node, Choice choice, int f) {
            if (f >= choice.freed) {
                size = node.index + 1;
                return triesMembers(node, choice, 0, node.from, node.many);
            }
            // What it and those behind it stand for does not help what is ahead of them.
            if (!opens(node, choice, f)) {
                return false;
            }
            int slot = choice.frees[f];
            int many = state.upper.hasMany(slot, state.longest);
            for (int k = 0; k < many && !over; k++) {
                node.stands[f] = state.upper.hasWord(slot, k);
                fits[node.level].put(slot, node.stands[f]);
                if (triesFrees(node, choice, f + 1)) {
                    return true;
                }
            }
            return false;
        }

        /** Whether all up to the f-th FREE one, or to the first NOTION, can stand: else no STEP comes of it. */
        private boolean opens(Node node, Choice choice, int f) {
            Fit fit = fits[node.level];
            int last = Math.min(choice.freeMembers[f], choice.ahead);
            for (int m = 0; m < last; m++) {
                if (fit.spell(choice.members[m], Rule.SIGNS) != words[node.from + m]) {
                    return false;
                }
            }
            boolean whole = last < choice.freeMembers[f];
            long row = fit.spell(choice.members[last], whole ? Rule.SIGNS : choice.freeSigns[f]);
            if (row == Rows.TOO_LONG || last == choice.ahead) {
                return row != Rows.TOO_LONG;
            }
            long word = words[node.from + last];
            int size = Rows.size(word);
            int first = Rows.size(row);
            return first <= size && Rows.part(word, size, 0, first) == row;
        }

        /** Whether the MEMBERS from one on make up all the WORDS that are left. */
        private boolean triesMembers(Node node, Choice choice, int member, int from, int left) {
            if (member >= choice.size) {
                return left == 0;
            }
            boolean token = choice.isToken(member);
            if (token && left == 0) {
                return false;
            }
            long row = fits[node.level].spell(choice.members[member], Rule.SIGNS);
            if (row == Rows.TOO_LONG) {
                return false;
            }
            if (token) {
                return words[from] == row && triesMembers(node, choice, member + 1, from + 1, left - 1);
            }
            int kept = size;
            for (int many = member == choice.size - 1 ? left : 0; many <= left && !over; many++) {
                size = kept;
                if (ask(node.level + 1, row, from, many, node.index)
                    && triesMembers(node, choice, member + 1, from + many, left - many)) {
                    return true;
                }
            }
            return false;
        }

        /** The first NODE whose line, gone through again, is not as told. */
        int firstWrong(long notion, int many) {
            for (int k = 0; k < size; k++) {
                Node node = nodes[k];
                boolean begins = k > 0 || node.row == notion && node.from == 0 && node.many == many;
                if (!begins || !isPlaced(node) || !isAssigned(node) || !hasItsMembers(node)) {
                    return k;
                }
            }
            return NONE;
        }

        private boolean isPlaced(Node node) {
            if (node.index == 0) {
                return node.level == 0 && node.above == NONE;
            }
            return node.above >= 0 && node.above < node.index && node.level < depth
                && node.level == nodes[node.above].level + 1;
        }

        /** Whether RULE, ASSIGNMENT and FREE words are there; the first level's Fit then has them. */
        private boolean isAssigned(Node node) {
            if (!state.hasRule(node.rule)) {
                return false;
            }
            Rule rule = state.rules[node.rule];
            if (node.alternative < 0 || node.alternative >= rule.size) {
                return false;
            }
            Choice choice = rule.choices[node.alternative];
            Fit fit = fits[0];
            fit.load(state.upper, node.row);
            boolean stands = choice == node.choice && fit.reach(rule, node.number);
            for (int f = 0; f < choice.freed; f++) {
                fit.put(choice.frees[f], node.stands[f]);
                stands &= isHad(choice.frees[f], node.stands[f]);
            }
            return stands;
        }

        private boolean isHad(int slot, long word) {
            int many = state.upper.hasMany(slot, state.longest);
            for (int k = 0; k < many; k++) {
                if (state.upper.hasWord(slot, k) == word) {
                    return true;
                }
            }
            return false;
        }

        private boolean hasItsMembers(Node node) {
            int place = node.from;
            int below = node.index + 1;
            for (int m = 0; m < node.choice.size; m++) {
                long row = fits[0].spell(node.choice.members[m], Rule.SIGNS);
                if (node.choice.isToken(m)) {
                    if (place >= words.length || words[place] != row) {
                        return false;
                    }
                    place++;
                } else {
                    Node next = nodeOrNull(below);
                    if (next == null || next.above != node.index || next.row != row || next.from != place) {
                        return false;
                    }
                    place += next.many;
                    below = behind(next);
                }
            }
            Node next = nodeOrNull(below);
            return place == node.from + node.many && (next == null || next.level <= node.level);
        }

        /** The first place behind a NODE and all below it. */
        private int behind(Node node) {
            int k = node.index + 1;
            while (k < size && nodes[k].level > node.level) {
                k++;
            }
            return k;
        }
    }
}
