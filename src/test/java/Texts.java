import java.util.List;
import java.util.Map;
import java.util.Random;

/** Texts for ModelRuns: grammars, notions and words that often have to do with one another. */
final class Texts {
    static final String NAMES = "ABENM";

    private Texts() {
    }

    /** Grammars of which the search finds much. */
    static String known(Random random) {
        String[] all = {
            "N=i|iN;s:aN,bN;aiN:\"a,aN;ai:\"a;biN:\"b,bN;bi:\"b",
            "N=i|iN;s:aN,bN,cN;aiN:\"a,aN;ai:\"a;biN:\"b,bN;bi:\"b;ciN:\"c,cN;ci:\"c",
            "N=|iN;s:N;N:\"N,iN/",
            "E=a|;w:;q:\"x,w;pE:",
            "A=a|b|c|d;B=A|AB;s:\"B,s/\"B;B:B/\"a",
            "A=a|b;s:eAA,t/;eAA:\"A;t:s,s/\"b",
            "E=|x;N=E|aN;M=N|Nb;NM:\"NM/N,M;E:;a:/a",
            "N=|aN|bN;M=|aM|bM;NM:\"N,M/\"M,N/;NNM:M",
            "A=|a|b;B=AA;E=BA;N=EB;M=NE;ABENM:A,B/\"N,\"M/A",
            "N=a|b;s:s,N/N;N:\"N;A=a;sA:s",
            "N=|Na|Nb;s:N,N;aN:\"a,N;bN:\"b,N;:",
            "N=Na|a;M=|N;s:\"x,N,M;N:\"N;M:/\"M;sM:s,M",
            "N=a|aN;B=b|bB;s:N,B/B,N;NB:\"N,\"B;aN:\"a,N;bB:\"b,B;a:\"a;b:\"b",
        };
        return all[random.nextInt(all.length)];
    }

    static String grammar(Random random) {
        StringBuilder s = new StringBuilder();
        String letters = "abcdefghij".substring(0, 2 + random.nextInt(random.nextInt(5) == 0 ? 6 : 2));
        String names = NAMES.substring(0, random.nextInt(NAMES.length() + 1));
        int rules = random.nextInt(random.nextInt(10) == 0 ? 12 : 6);
        boolean late = random.nextInt(4) == 0;
        if (!late) metas(s, random, letters, names);
        for (int r = 0; r < rules; r++) {
            if (s.length() > 0) s.append(";");
            rule(s, random, letters, names);
        }
        if (late) metas(s, random, letters, names);
        if (random.nextInt(4) == 0) blanks(s, random);
        return s.length() > 500 ? s.substring(0, 500) : s.toString();
    }

    private static void metas(StringBuilder s, Random random, String letters, String names) {
        for (char name : names.toCharArray()) {
            if (s.length() > 0) s.append(";");
            s.append(name).append("=");
            int rows = 1 + random.nextInt(random.nextInt(30) == 0 ? 5 : 4);
            for (int k = 0; k < rows; k++) {
                if (k > 0) s.append("|");
                int size = random.nextInt(random.nextInt(6) == 0 ? 8 : 3);
                signs(s, random, letters, names, size, 40);
            }
        }
    }

    private static void signs(StringBuilder s, Random random, String letters, String names, int size, int capitals) {
        for (int i = 0; i < size; i++) {
            boolean capital = !names.isEmpty() && random.nextInt(100) < capitals;
            String from = capital ? names : letters;
            s.append(from.charAt(random.nextInt(from.length())));
        }
    }

    private static void rule(StringBuilder s, Random random, String letters, String names) {
        signs(s, random, letters, names, 1 + random.nextInt(random.nextInt(6) == 0 ? 6 : 3), 50);
        s.append(":");
        int choices = 1 + random.nextInt(random.nextInt(40) == 0 ? 5 : 3);
        for (int c = 0; c < choices; c++) {
            if (c > 0) s.append("/");
            int members = random.nextInt(random.nextInt(20) == 0 ? 6 : 4);
            // Few names, so that a third FREE one is seldom.
            String few = names.isEmpty() || random.nextInt(10) == 0 ? names
                : names.substring(random.nextInt(names.length())).substring(0, 1) + names.charAt(0);
            for (int m = 0; m < members; m++) {
                if (m > 0) s.append(",");
                if (random.nextInt(100) < 45) s.append('"');
                signs(s, random, letters, few, 1 + random.nextInt(random.nextInt(12) == 0 ? 7 : 2), 50);
            }
        }
    }

    private static void blanks(StringBuilder s, Random random) {
        for (int i = random.nextInt(12); i > 0; i--) s.insert(random.nextInt(s.length() + 1), ' ');
    }

    /** Often what a HEAD can stand for. */
    static String notion(Random random, Model model) {
        if (!model.all.rules.isEmpty() && random.nextInt(100) < 75) {
            String head = model.all.rules.get(random.nextInt(model.all.rules.size())).head;
            String made = made(head, random, model);
            if (made.length() <= 10) return made;
        }
        StringBuilder s = new StringBuilder();
        signs(s, random, "abc", "", random.nextInt(random.nextInt(4) == 0 ? 12 : 5), 0);
        return s.toString();
    }

    private static String made(String signs, Random random, Model model) {
        Map<Character, List<String>> metas = model.all.metas;
        StringBuilder s = new StringBuilder(signs);
        for (int turn = 0; turn < 12; turn++) {
            for (int i = 0; i < s.length(); i++) {
                List<String> rows = metas.get(s.charAt(i));
                if (rows != null) {
                    s.replace(i, i + 1, rows.get(random.nextInt(rows.size())));
                    break;
                }
            }
        }
        for (int i = s.length() - 1; i >= 0; i--) if (metas.containsKey(s.charAt(i))) s.deleteCharAt(i);
        return s.toString();
    }

    /** Often what TOKENS can stand for. */
    static String words(Random random, Model model) {
        StringBuilder s = new StringBuilder();
        int many = random.nextInt(random.nextInt(5) == 0 ? 11 : 5);
        for (int w = 0; w < many; w++) {
            if (w > 0 || random.nextInt(5) == 0) s.append(" ");
            String token = token(random, model);
            s.append(token.isEmpty() ? "a" : token);
            if (random.nextInt(12) == 0) s.append(" ");
        }
        return s.toString();
    }

    private static String token(Random random, Model model) {
        if (!model.all.rules.isEmpty() && random.nextInt(100) < 85) {
            for (int turn = 0; turn < 10; turn++) {
                Model.Rule rule = model.all.rules.get(random.nextInt(model.all.rules.size()));
                List<Model.Member> choice = rule.choices.get(random.nextInt(rule.choices.size()));
                if (choice.isEmpty()) continue;
                Model.Member member = choice.get(random.nextInt(choice.size()));
                if (member.token) return made(member.signs, random, model);
            }
        }
        return "abc".substring(random.nextInt(3)).substring(0, 1);
    }
}
