import java.util.ArrayDeque;
import java.util.ArrayList;
import java.util.Arrays;
import java.util.Deque;
import java.util.HashMap;
import java.util.HashSet;
import java.util.LinkedHashMap;
import java.util.List;
import java.util.Map;
import java.util.Set;
import java.util.TreeSet;

/**
 * The document once more, written for plainness alone with strings and sets of the library: slow, but easy to
 * hold against the document's words. ModelRuns compares the class with it.
 */
final class Model {
    static final class Over extends RuntimeException {
        private static final long serialVersionUID = 1L;
    }

    static final class Member {
        boolean token;
        String signs;
    }

    static final class Rule {
        String head;
        List<List<Member>> choices = new ArrayList<>();
    }

    static final class Node {
        int rule, choice, number, from, many, above, level;
        String notion;
        Map<Character, String> free = new HashMap<>();
    }

    static final class All {
        Map<Character, List<String>> metas = new LinkedHashMap<>();
        List<Rule> rules = new ArrayList<>();
        int depth = 6, longest = 2;
        String notion = "";
        List<String> text = new ArrayList<>();

        All copy() {
            All other = new All();
            other.metas = metas;
            other.rules = new ArrayList<>(rules);
            other.depth = depth;
            other.longest = longest;
            other.notion = notion;
            other.text = text;
            return other;
        }
    }

    All all = new All();
    StringBuilder tape = new StringBuilder();
    Deque<All> past = new ArrayDeque<>();
    All[] shelves = new All[2];

    // ---- the tape ----

    int feed(int... five) {
        if (tape.length() + 20 > 500) return -1;
        for (int n : five) for (int k = 3; k >= 0; k--) tape.append((char) ((n >> (8 * k)) & 0xff));
        return tape.length();
    }

    int end(int n) {
        if (n < 0 || n > tape.length()) return -1;
        tape.setLength(n);
        return n;
    }

    private String take() {
        String s = tape.toString();
        tape.setLength(0);
        return s;
    }

    private static boolean small(char c) { return c >= 'a' && c <= 'z'; }
    private static boolean capital(char c) { return c >= 'A' && c <= 'Z'; }
    private static boolean sign(char c) { return small(c) || capital(c); }

    /** All faults that a text has, of which the least is its FAULT (the place weighs more than the kind). */
    static TreeSet<Integer> faults(String raw, All into) {
        TreeSet<Integer> found = new TreeSet<>();
        StringBuilder bare = new StringBuilder();
        List<Integer> places = new ArrayList<>();
        for (int i = 0; i < raw.length(); i++) {
            if (raw.charAt(i) != ' ') {
                bare.append(raw.charAt(i));
                places.add(i);
            }
        }
        places.add(raw.length());
        if (bare.length() > 0) {
            int start = 0;
            String[] parts = bare.toString().split(";", -1);
            for (String part : parts) {
                // the byte behind a PART is its ; or the text's end
                partFaults(part, start, places, into, found);
                if (!found.isEmpty()) return found;
                start += part.length() + 1;
            }
        }
        for (int i = 0; i < raw.length(); i++) {
            if (capital(raw.charAt(i)) && !into.metas.containsKey(raw.charAt(i))) {
                found.add(8 * i + 5);
                return found;
            }
        }
        return found;
    }

    private static void partFaults(String part, int start, List<Integer> places, All into, TreeSet<Integer> found) {
        int h = 0;
        while (h < part.length() && sign(part.charAt(h))) h++;
        if (h > 6) { found.add(8 * places.get(start + 6) + 2); return; }
        char behind = h < part.length() ? part.charAt(h) : 0;
        boolean oneCapital = h == 1 && capital(part.charAt(0));
        if (h == 0 || !(behind == ':' || behind == '=' && oneCapital)) { found.add(8 * places.get(start + h) + 1); return; }
        String rest = part.substring(h + 1);
        int at = start + h + 1;
        if (behind == '=') {
            char name = part.charAt(0);
            if (into.metas.containsKey(name)) { found.add(8 * places.get(start) + 4); return; }
            if (into.metas.size() == 6) { found.add(8 * places.get(start) + 3); return; }
            List<String> rows = new ArrayList<>();
            into.metas.put(name, rows);
            for (String row : rest.split("\\|", -1)) {
                if (rows.size() == 4) { found.add(8 * places.get(at - 1) + 3); return; }
                rows.add(row);
                for (int i = 0; i < row.length(); i++) {
                    if (!sign(row.charAt(i))) { found.add(8 * places.get(at + i) + 1); return; }
                    if (i == 6) { found.add(8 * places.get(at + i) + 2); return; }
                }
                at += row.length() + 1;
            }
            return;
        }
        if (into.rules.size() == 10) { found.add(8 * places.get(start) + 3); return; }
        Rule rule = new Rule();
        rule.head = part.substring(0, h);
        into.rules.add(rule);
        for (String choice : rest.split("/", -1)) {
            if (rule.choices.size() == 4) { found.add(8 * places.get(at - 1) + 3); return; }
            List<Member> members = new ArrayList<>();
            rule.choices.add(members);
            if (!choice.isEmpty()) {
                choiceFaults(choice, at, places, rule, members, found);
                if (!found.isEmpty()) return;
            }
            at += choice.length() + 1;
        }
    }

    private static void choiceFaults(String choice, int start, List<Integer> places, Rule rule, List<Member> members, TreeSet<Integer> found) {
        Set<Character> free = new HashSet<>();
        int at = start;
        for (String told : choice.split(",", -1)) {
            if (members.size() == 4) { found.add(8 * places.get(at - 1) + 3); return; }
            Member member = new Member();
            member.token = told.startsWith("\"");
            member.signs = member.token ? told.substring(1) : told;
            int from = at + (member.token ? 1 : 0);
            for (int i = 0; i < member.signs.length(); i++) {
                char c = member.signs.charAt(i);
                int place = 8 * places.get(from + i);
                if (!sign(c)) { found.add(place + 1); return; }
                if (i == 6) { found.add(place + 2); return; }
                if (capital(c) && rule.head.indexOf(c) < 0) free.add(c);
                if (free.size() > 2) { found.add(place + 3); return; }
            }
            if (member.signs.isEmpty()) { found.add(8 * places.get(from) + 1); return; }
            members.add(member);
            at += told.length() + 1;
        }
    }

    int tell() {
        All next = new All();
        TreeSet<Integer> faults = faults(take(), next);
        if (!faults.isEmpty()) return -2 - faults.first();
        next.depth = all.depth;
        next.longest = all.longest;
        all = next;
        past.clear();
        return all.rules.size();
    }

    int notion() {
        String s = take();
        for (int i = 0; i < s.length(); i++) {
            if (!small(s.charAt(i))) return -2 - (8 * i + 1);
            if (i == 10) return -2 - (8 * i + 2);
        }
        all = all.copy();
        all.notion = s;
        return s.length();
    }

    int text() {
        String s = take();
        List<String> words = new ArrayList<>();
        for (int i = 0; i < s.length(); i++) {
            if (s.charAt(i) == ' ') continue;
            int j = i;
            while (j < s.length() && s.charAt(j) != ' ') {
                if (!small(s.charAt(j))) return -2 - (8 * j + 1);
                if (j - i == 10) return -2 - (8 * j + 2);
                if (words.size() == 8) return -2 - (8 * j + 3);
                j++;
            }
            words.add(s.substring(i, j));
            i = j;
        }
        all = all.copy();
        all.text = words;
        return words.size();
    }

    // ---- acts, shelves ----

    private void act() {
        past.addLast(all.copy());
        if (past.size() > 10) past.removeFirst();
        all = all.copy();
    }

    int settle(int what, int value) {
        if (what == 0 && 1 <= value && value <= 12) {
            int was = all.depth;
            if (was == value) return -2;
            act();
            all.depth = value;
            return was;
        }
        if (what == 1 && 0 <= value && value <= 3) {
            int was = all.longest;
            if (was == value) return -2;
            act();
            all.longest = value;
            return was;
        }
        return -1;
    }

    private boolean ruled(int r) { return r >= 0 && r < all.rules.size(); }

    int drop(int r) {
        if (!ruled(r)) return -1;
        act();
        all.rules.remove(r);
        return all.rules.size();
    }

    int swap(int r, int s) {
        if (!ruled(r) || !ruled(s)) return -1;
        if (r == s) return -2;
        act();
        Rule one = all.rules.get(r);
        all.rules.set(r, all.rules.get(s));
        all.rules.set(s, one);
        return 1;
    }

    int undo() {
        if (past.isEmpty()) return -1;
        All before = past.removeLast();
        before.notion = all.notion;
        before.text = all.text;
        all = before;
        return past.size();
    }

    int keep(int s) {
        if (s != 0 && s != 1) return -1;
        shelves[s] = all.copy();
        return all.rules.size();
    }

    int back(int s) {
        if (s != 0 && s != 1) return -1;
        if (shelves[s] == null) return -2;
        all = shelves[s].copy();
        past.clear();
        return all.rules.size();
    }

    // ---- what is there ----

    private static int at(String s, int i, int otherwise) { return i < 0 || i >= s.length() ? otherwise : s.charAt(i); }
    private static int atOrSize(String s, int i, int otherwise) { return i == -1 ? s.length() : at(s, i, otherwise); }

    int letter(int k, int i) {
        if (k < -1 || k >= all.text.size() || i < 0) return -1;
        return at(k == -1 ? all.notion : all.text.get(k), i, -2);
    }

    private boolean told(int name) { return name >= 'A' && name <= 'Z' && all.metas.containsKey((char) name); }

    /** All words of every METANOTION of at most so many letters, made round by round. */
    Map<Character, Set<String>> words(int most) {
        Map<Character, Set<String>> words = new HashMap<>();
        for (char m : all.metas.keySet()) words.put(m, new HashSet<>());
        for (boolean grown = true; grown; ) {
            grown = false;
            for (char m : all.metas.keySet()) {
                for (String row : all.metas.get(m)) {
                    Set<String> made = new HashSet<>(List.of(""));
                    for (char c : row.toCharArray()) {
                        Set<String> longer = new HashSet<>();
                        for (String a : made) {
                            for (String b : small(c) ? Set.of(String.valueOf(c)) : words.get(c)) {
                                if (a.length() + b.length() <= most) longer.add(a + b);
                            }
                        }
                        made = longer;
                    }
                    grown |= words.get(m).addAll(made);
                }
            }
        }
        return words;
    }

    private Map<Character, List<String>> had;
    private All hadOf;

    /** Kept for one All as long as it is the present one with the same settings; every change makes a new All. */
    List<String> has(char name) {
        if (hadOf != all) {
            had = new HashMap<>();
            Map<Character, Set<String>> words = words(all.longest);
            for (char m : words.keySet()) {
                List<String> list = new ArrayList<>(words.get(m));
                list.sort((a, b) -> a.length() != b.length() ? a.length() - b.length() : a.compareTo(b));
                had.put(m, list.subList(0, Math.min(20, list.size())));
            }
            hadOf = all;
        }
        return had.get(name);
    }

    Set<Character> productive() {
        Set<Character> live = new HashSet<>();
        for (boolean grown = true; grown; ) {
            grown = false;
            for (char m : all.metas.keySet()) {
                for (String row : all.metas.get(m)) {
                    boolean good = true;
                    for (char c : row.toCharArray()) good &= small(c) || live.contains(c);
                    if (good) grown |= live.add(m);
                }
            }
        }
        return live;
    }

    int meta(int name, int what) {
        if (!told(name)) return -1;
        char m = (char) name;
        if (what == 0) return all.metas.get(m).size();
        if (what == 1) return has(m).size();
        if (what == 2) return words(0).get(m).size();
        if (what == 3) return productive().contains(m) ? 1 : 0;
        if (what != 4) return -1;
        int bits = 0;
        for (int r = 0; r < all.rules.size(); r++) {
            boolean stands = all.rules.get(r).head.indexOf(m) >= 0;
            for (List<Member> choice : all.rules.get(r).choices) {
                for (Member member : choice) stands |= member.signs.indexOf(m) >= 0;
            }
            if (stands) bits |= 1 << r;
        }
        return bits;
    }

    int word(int name, int k, int i) {
        if (!told(name) || k < 0 || i < -1) return -1;
        List<String> list = has((char) name);
        return k >= list.size() ? -2 : atOrSize(list.get(k), i, -2);
    }

    private Map<String, Set<String>> spanCache = new HashMap<>();
    private Map<Character, List<String>> spanMetas;

    /** "N3,5": letters 3 up to 5 of the notion are a word of N. */
    Set<String> spans(String notion) {
        if (spanMetas != all.metas) {
            spanMetas = all.metas;
            spanCache.clear();
            assignmentCache.clear();
        }
        Set<String> got = spanCache.get(notion);
        if (got != null) return got;
        Set<String> found = new HashSet<>();
        for (boolean grown = true; grown; ) {
            grown = false;
            for (char m : all.metas.keySet()) {
                for (int i = 0; i <= notion.length(); i++) {
                    for (int j = i; j <= notion.length(); j++) {
                        if (found.contains(m + "" + i + "," + j)) continue;
                        for (String row : all.metas.get(m)) {
                            if (makes(row, 0, notion, i, j, found)) grown |= found.add(m + "" + i + "," + j);
                        }
                    }
                }
            }
        }
        spanCache.put(notion, found);
        return found;
    }

    private static boolean makes(String row, int k, String notion, int i, int j, Set<String> found) {
        if (k == row.length()) return i == j;
        char c = row.charAt(k);
        if (small(c)) return i < j && notion.charAt(i) == c && makes(row, k + 1, notion, i + 1, j, found);
        for (int e = i; e <= j; e++) {
            if (found.contains(c + "" + i + "," + e) && makes(row, k + 1, notion, e, j, found)) return true;
        }
        return false;
    }

    int is(int name) {
        return told(name) ? spans(all.notion).contains((char) name + "0," + all.notion.length()) ? 1 : 0 : -1;
    }

    int span(int name, int from, int many) {
        if (!told(name) || from < 0 || many < 0 || (long) from + many > all.notion.length()) return -1;
        return spans(all.notion).contains((char) name + "" + from + "," + (from + many)) ? 1 : 0;
    }

    private static int bits(Set<Character> capitals) {
        int bits = 0;
        for (char c : capitals) bits |= 1 << (c - 'A');
        return bits;
    }

    private static List<Character> capitals(String signs) {
        List<Character> list = new ArrayList<>();
        for (char c : signs.toCharArray()) if (capital(c) && !list.contains(c)) list.add(c);
        return list;
    }

    private static List<Character> frees(Rule rule, List<Member> choice) {
        StringBuilder signs = new StringBuilder();
        for (Member member : choice) signs.append(member.signs);
        List<Character> list = capitals(signs.toString());
        list.removeAll(capitals(rule.head));
        return list;
    }

    int rule(int r, int what) {
        if (!ruled(r)) return -1;
        Rule rule = all.rules.get(r);
        if (what == 0) return rule.head.length();
        if (what == 1) return rule.choices.size();
        return what == 2 ? bits(new HashSet<>(capitals(rule.head))) : -1;
    }

    int head(int r, int i) {
        return !ruled(r) || i < 0 ? -1 : at(all.rules.get(r).head, i, -2);
    }

    int choice(int r, int c, int what) {
        if (!ruled(r) || c < 0 || c >= all.rules.get(r).choices.size()) return -1;
        List<Member> choice = all.rules.get(r).choices.get(c);
        if (what == 0) return choice.size();
        if (what == 1) return bits(new HashSet<>(frees(all.rules.get(r), choice)));
        return what == 2 ? (int) choice.stream().filter(m -> m.token).count() : -1;
    }

    // ---- assignments ----

    private final Map<String, List<Map<Character, String>>> assignmentCache = new HashMap<>();

    List<Map<Character, String>> assignments(Rule rule, String notion) {
        spans(notion);
        return assignmentCache.computeIfAbsent(rule.head + ":" + notion, key -> {
            List<Map<Character, String>> list = new ArrayList<>();
            lengths(rule.head, capitals(rule.head), notion, new int[6], 0, 0, list);
            return list;
        });
    }

    /** Every way to tell lengths, the first METANOTION's outermost, looked at only when all are told. */
    private void lengths(String head, List<Character> names, String notion, int[] sizes, int k, int sum, List<Map<Character, String>> list) {
        if (k == names.size()) {
            Map<Character, String> map = new LinkedHashMap<>();
            int at = 0;
            for (char c : head.toCharArray()) {
                if (small(c)) {
                    at++;
                } else {
                    int size = sizes[names.indexOf(c)];
                    if (at + size > notion.length()) return;
                    if (!map.containsKey(c)) {
                        if (!spans(notion).contains(c + "" + at + "," + (at + size))) return;
                        map.put(c, notion.substring(at, at + size));
                    }
                    at += size;
                }
            }
            if (notion.equals(put(head, map))) list.add(map);
            return;
        }
        for (sizes[k] = 0; sum + sizes[k] <= notion.length(); sizes[k]++) {
            lengths(head, names, notion, sizes, k + 1, sum + sizes[k], list);
        }
    }

    static String put(String signs, Map<Character, String> map) {
        StringBuilder made = new StringBuilder();
        for (char c : signs.toCharArray()) {
            if (small(c)) made.append(c);
            else made.append(map.get(c));
        }
        return made.toString();
    }

    int heads(int r) {
        return ruled(r) ? assignments(all.rules.get(r), all.notion).size() : -1;
    }

    int assigned(int r, int k, int name, int i) {
        if (!ruled(r) || !told(name) || all.rules.get(r).head.indexOf((char) name) < 0 || k < 0 || i < -1) return -1;
        List<Map<Character, String>> list = assignments(all.rules.get(r), all.notion);
        return k >= list.size() ? -2 : atOrSize(list.get(k).get((char) name), i, -2);
    }

    int blind() {
        int bits = 0;
        for (int r = 0; r < all.rules.size(); r++) if (heads(r) > 0) bits |= 1 << r;
        return bits;
    }

    // ---- the search ----

    private int steps, blinds, ends, deepest;

    /** The NODES if it derives, null if not; Over behind 500 STEPS. */
    private List<Node> search(String notion, List<String> words, int depth) {
        steps = blinds = ends = deepest = 0;
        List<Node> tree = ask(notion, 0, words.size(), words, depth, 0);
        return tree;
    }

    private List<Node> ask(String notion, int from, int to, List<String> words, int depth, int level) {
        if (notion.length() > 10) return null;
        if (++steps > 500) throw new Over();
        deepest = Math.max(deepest, level);
        if (depth == 0) {
            ends++;
            return null;
        }
        boolean blind = true;
        for (int r = 0; r < all.rules.size(); r++) {
            Rule rule = all.rules.get(r);
            List<Map<Character, String>> list = assignments(rule, notion);
            for (int k = 0; k < list.size(); k++) {
                blind = false;
                for (int c = 0; c < rule.choices.size(); c++) {
                    List<Member> choice = rule.choices.get(c);
                    for (Map<Character, String> free : combinations(frees(rule, choice))) {
                        Map<Character, String> map = new HashMap<>(list.get(k));
                        map.putAll(free);
                        List<Node> below = members(choice, 0, map, from, to, words, depth, level);
                        if (below != null) {
                            Node node = new Node();
                            node.rule = r;
                            node.choice = c;
                            node.number = k;
                            node.from = from;
                            node.many = to - from;
                            node.level = level;
                            node.notion = notion;
                            node.free = free;
                            List<Node> tree = new ArrayList<>(List.of(node));
                            tree.addAll(below);
                            return tree;
                        }
                    }
                }
            }
        }
        if (blind) blinds++;
        return null;
    }

    private List<Map<Character, String>> combinations(List<Character> free) {
        List<Map<Character, String>> list = new ArrayList<>();
        if (free.isEmpty()) {
            list.add(new HashMap<>());
        } else if (free.size() == 1) {
            for (String word : has(free.get(0))) list.add(new HashMap<>(Map.of(free.get(0), word)));
        } else {
            for (String word : has(free.get(0))) {
                for (String other : has(free.get(1))) list.add(new HashMap<>(Map.of(free.get(0), word, free.get(1), other)));
            }
        }
        return list;
    }

    private List<Node> members(List<Member> choice, int m, Map<Character, String> map, int from, int to, List<String> words, int depth, int level) {
        if (m == choice.size()) return from == to ? new ArrayList<>() : null;
        String row = put(choice.get(m).signs, map);
        if (choice.get(m).token) {
            return from < to && words.get(from).equals(row) ? members(choice, m + 1, map, from + 1, to, words, depth, level) : null;
        }
        for (int mid = m == choice.size() - 1 ? to : from; mid <= to; mid++) {
            List<Node> tree = ask(row, from, mid, words, depth - 1, level + 1);
            if (tree == null) continue;
            List<Node> rest = members(choice, m + 1, map, mid, to, words, depth, level);
            if (rest != null) {
                tree.addAll(rest);
                return tree;
            }
        }
        return null;
    }

    int holds() {
        try {
            return search(all.notion, List.of(), all.depth) != null ? 1 : 0;
        } catch (Over over) {
            return -3;
        }
    }

    private List<Node> derivation;
    private All derivedOf;
    private int derived;
    private int[] told;

    int derives() {
        if (derivedOf == all) return derived;
        derivation = null;
        try {
            derivation = search(all.notion, all.text, all.depth);
            derived = derivation != null ? 1 : 0;
        } catch (Over over) {
            derived = -3;
        }
        told = new int[] {steps, blinds, ends, deepest};
        derivedOf = all;
        return derived;
    }

    int steps(int what) {
        if (what < 0 || what > 3) return -1;
        return derives() == -3 ? -3 : told[what];
    }

    int least() {
        try {
            for (int d = 1; d <= 12; d++) if (search(all.notion, all.text, d) != null) return d;
            return -2;
        } catch (Over over) {
            return -3;
        }
    }

    int node(int k, int what) {
        if (derives() != 1) return -1;
        if (k == -1) return what == 0 ? derivation.size() : -1;
        if (k < 0 || k >= derivation.size() || what < 0 || what > 7) return -1;
        Node node = derivation.get(k);
        int above = k - 1;
        while (above >= 0 && derivation.get(above).level >= node.level) above--;
        return new int[] {node.rule, node.choice, node.number, node.from, node.many, above, node.notion.length(), node.level}[what];
    }

    int spelled(int k, int i) {
        return derives() != 1 || k < 0 || k >= derivation.size() ? -1 : at(derivation.get(k).notion, i, -1);
    }

    int free(int k, int name, int i) {
        if (derives() != 1 || k < 0 || k >= derivation.size() || !told(name)) return -1;
        String word = derivation.get(k).free.get((char) name);
        return word == null ? -1 : atOrSize(word, i, -1);
    }

    int checked() {
        return derives() == 1 ? -1 : -2;
    }

    int count(int what) {
        switch (what) {
            case 0: return all.metas.size();
            case 1: return all.rules.size();
            case 2: return all.rules.stream().mapToInt(r -> r.choices.size()).sum();
            case 3: return all.text.size();
            case 4: return all.notion.length();
            case 5: return all.depth;
            case 6: return all.longest;
            case 7: return past.size();
            case 8: return tape.length();
            case 9: return (shelves[0] != null ? 1 : 0) + (shelves[1] != null ? 2 : 0);
            case 10:
                Set<Character> dead = new HashSet<>(all.metas.keySet());
                dead.removeAll(productive());
                return bits(dead);
            default: return -1;
        }
    }

    /** A call by its number, so that a run can be told as rows of numbers. */
    int call(int[] c) {
        switch (c[0]) {
            case 0: return feed(c[1], c[2], c[3], c[4], c[5]);
            case 1: return end(c[1]);
            case 2: return tell();
            case 3: return notion();
            case 4: return text();
            case 5: return settle(c[1], c[2]);
            case 6: return drop(c[1]);
            case 7: return swap(c[1], c[2]);
            case 8: return undo();
            case 9: return keep(c[1]);
            case 10: return back(c[1]);
            case 11: return letter(c[1], c[2]);
            case 12: return meta(c[1], c[2]);
            case 13: return word(c[1], c[2], c[3]);
            case 14: return is(c[1]);
            case 15: return span(c[1], c[2], c[3]);
            case 16: return rule(c[1], c[2]);
            case 17: return head(c[1], c[2]);
            case 18: return choice(c[1], c[2], c[3]);
            case 19: return heads(c[1]);
            case 20: return assigned(c[1], c[2], c[3], c[4]);
            case 21: return blind();
            case 22: return holds();
            case 23: return derives();
            case 24: return steps(c[1]);
            case 25: return least();
            case 26: return node(c[1], c[2]);
            case 27: return spelled(c[1], c[2]);
            case 28: return free(c[1], c[2], c[3]);
            case 29: return checked();
            case 30: return count(c[1]);
            default: throw new IllegalArgumentException(Arrays.toString(c));
        }
    }
}
