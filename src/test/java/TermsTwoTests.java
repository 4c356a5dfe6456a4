/**
 * The boundary cases that the document's Terms II name, a test each: ASSIGNMENTS, the SEARCH at its greatest DEPTH and
 * at its last STEP, THE DERIVATION, ACTS and SHELVES at their ends.
 */
public final class TermsTwoTests extends Checks {
    /** C and D HAVE 20 words each. */
    private static final String TWENTY = "A=a|b|c|d;B=e|f|g|h;C=A|B|AA;D=A|B|AA;";

    private TermsTwoTests() {
    }

    public static void main(String[] args) throws IllegalAccessException {
        runAll(TermsTwoTests.class);
        finish();
    }

    // ---- notions and ASSIGNMENTS ----

    static void termNotionOfMoreThanTenLettersDerivesNothing() {
        TwoLevels x = asked("N=|aN;xN:NNNNN;yN:NNNNNa;N:", "xaa", "");
        due(x.derives(), 1, "a MEMBER of ten letters");
        due(x.node(1, 6), 10, "letters of its NODE");
        due(x.steps(0), 2, "STEPS");
        Calls.notion(x, "yaa");
        due(x.derives(), 0, "a MEMBER of eleven letters");
        due(x.holds(), 0, "and holds");
        due(x.least(), -2, "and least");
        due(x.steps(0), 1, "it is no STEP");
        due(x.steps(1), 0, "nor BLIND");
        due(x.steps(3), 0, "nor come to");
    }

    static void termMemberMayBecomeARowOfNoLetters() {
        TwoLevels x = asked("E=;s:E;E:\"x", "s", "x");
        due(x.derives(), 1, "derives");
        due(x.node(1, 6), 0, "letters of its NODE");
        due(x.spelled(1, 0), NONE, "and none is spelled");
    }

    static void termAssignmentHasOneWordForAllPlaces() {
        TwoLevels x = asked("A=a|b|ab;AA:;AxA:", "aa", "");
        due(x.heads(0), 1, "aa");
        Calls.notion(x, "ab");
        due(x.heads(0), 0, "ab");
        Calls.notion(x, "abab");
        due(x.heads(0), 1, "abab");
        due(stood(x, 0, 0, 'A').equals("ab") ? 1 : 0, 1, "A stands for ab");
        Calls.notion(x, "axb");
        due(x.heads(1), 0, "axb");
        Calls.notion(x, "abxab");
        due(x.heads(1), 1, "abxab");
        Calls.notion(x, "abxa");
        due(x.heads(1), 0, "abxa");
    }

    static void termAssignmentMakesTheHeadTheWholeNotion() {
        TwoLevels x = asked("A=|a;ab:;Ab:", "ab", "");
        due(x.heads(0), 1, "all of it");
        due(x.heads(1), 1, "with A");
        Calls.notion(x, "a");
        due(x.heads(0) + x.heads(1), 0, "too few letters");
        Calls.notion(x, "abb");
        due(x.heads(0) + x.heads(1), 0, "too many letters");
        Calls.notion(x, "aab");
        due(x.heads(0) + x.heads(1), 0, "one letter too many ahead");
    }

    static void termAssignmentMayHaveTheEmptyWord() {
        TwoLevels x = asked("A=|a;AbA:;A:;AAAAAA:", "b", "");
        due(x.heads(0), 1, "b");
        due(x.assigned(0, 0, 'A', NONE), 0, "A stands for nothing");
        Calls.notion(x, "");
        due(x.heads(0), 0, "nothing is no b");
        due(x.heads(1), 1, "A alone");
        due(x.heads(2), 1, "six A");
        Calls.notion(x, "aaaaaa");
        due(x.heads(2), 1, "six A, one letter each");
        Calls.notion(x, "aaaaa");
        due(x.heads(2), 0, "five letters");
    }

    static void termAssignmentsOfTenLettersAndSixMetanotions() {
        StringBuilder grammar = new StringBuilder("ABCDEF:");
        for (char c = 'A'; c <= 'F'; c++) grammar.append(';').append(c).append("=|a").append(c);
        TwoLevels x = asked(grammar.toString(), "aaaaaaaaaa", "");
        due(x.heads(0), 3003, "ten letters in six parts");
        due(x.assigned(0, 0, 'F', NONE), 10, "the first: all of them in F");
        due(x.assigned(0, 0, 'A', NONE), 0, "and none in A");
        due(x.assigned(0, 1, 'F', NONE), 9, "the second: nine in F");
        due(x.assigned(0, 1, 'E', NONE), 1, "and one in E");
        due(x.assigned(0, 3002, 'A', NONE), 10, "the last: all of them in A");
        due(x.assigned(0, 3002, 'A', 9), 'a', "its last letter");
        due(x.assigned(0, 3003, 'A', NONE), -2, "one more");
        due(x.holds(), 1, "holds by the first");
    }

    static void termAssignmentsAreOrderedByLengthsAlongTheHead() {
        TwoLevels x = asked("A=|aA;B=|aB;C=|aC;ABC:;CAB:;ABA:", "aa", "");
        int[][] want = {{0, 0, 2}, {0, 1, 1}, {0, 2, 0}, {1, 0, 1}, {1, 1, 0}, {2, 0, 0}};
        due(x.heads(0), want.length, "ABC");
        due(x.heads(1), want.length, "CAB");
        for (int k = 0; k < want.length; k++) {
            for (int n = 0; n < 3; n++) {
                due(x.assigned(0, k, "ABC".charAt(n), NONE), want[k][n], "ABC, " + k + ", " + "ABC".charAt(n));
                due(x.assigned(1, k, "CAB".charAt(n), NONE), want[k][n], "CAB, " + k + ", " + "CAB".charAt(n));
            }
        }
        due(x.heads(2), 2, "ABA");
        due(x.assigned(2, 0, 'B', NONE), 2, "first A for nothing");
        due(x.assigned(2, 1, 'A', NONE), 1, "then A for one letter");
    }

    static void termAssignmentsTakeWordsOfAnyLength() {
        TwoLevels x = asked("A=a|aA;A:\"x", "aaaaaaaaaa", "x");
        due(x.heads(0), 1, "ten letters, LONG being 2");
        x.settle(1, 0);
        due(x.heads(0), 1, "LONG being 0");
        due(x.derives(), 1, "derives");
    }

    static void termNotionIsBlindIfNoRuleHasAnAssignment() {
        TwoLevels x = asked("A=a;ab:;AA:", "ab", "");
        due(x.blind(), 1, "by the first");
        Calls.notion(x, "aa");
        due(x.blind(), 2, "by the second");
        Calls.notion(x, "ba");
        due(x.blind(), 0, "by none");
        due(new TwoLevels().blind(), 0, "without RULES");
    }

    // ---- DEPTH ----

    static void termDepthIsSixAtFirst() {
        TwoLevels x = asked("a:b;b:c;c:d;d:e;e:f;f:;g:a", "a", "");
        due(x.derives(), 1, "a chain of six");
        due(x.steps(2), 0, "ends of DEPTH");
        due(x.steps(3), 5, "the greatest depth");
        Calls.notion(x, "g");
        due(x.derives(), 0, "a chain of seven");
        due(x.holds(), 0, "and holds");
        due(x.steps(0), 7, "STEPS");
        due(x.steps(2), 1, "ends of DEPTH");
        due(x.steps(3), 6, "the greatest depth");
        due(x.steps(1), 0, "BLIND ones");
        x.settle(0, 7);
        due(x.derives(), 1, "by seven");
    }

    static void termByDepthNoneTheAnswerIsNo() {
        TwoLevels x = asked("a:\"x/b;b:\"y;c:/b", "a", "x");
        x.settle(0, 1);
        due(x.derives(), 1, "by TOKENS");
        Calls.text(x, "y");
        due(x.derives(), 0, "by a NOTION");
        due(x.steps(0), 2, "that asked is a STEP");
        due(x.steps(2), 1, "and an end of DEPTH");
        due(x.steps(3), 1, "and come to");
        due(x.steps(1), 0, "not BLIND");
        Calls.notion(x, "c");
        due(x.holds(), 1, "by no MEMBER");
        TwoLevels y = asked("a:z", "a", "");
        y.settle(0, 1);
        due(y.steps(1), 0, "one that no RULE is for, by DEPTH 0");
        due(y.steps(2), 1, "is an end of DEPTH");
        y.settle(0, 2);
        due(y.steps(1), 1, "by DEPTH 1 it is BLIND");
        due(y.steps(2), 0, "and no end");
    }

    static void termDepthIsTwelveAtMost() {
        TwoLevels x = asked("N=|iN;E=;iN:sN;sN:N;E:\"x", "siiiii", "x");
        x.settle(0, 12);
        due(x.derives(), 1, "a chain of twelve");
        due(x.steps(3), 11, "the greatest depth");
        due(x.node(11, 7), 11, "how deep the last NODE is");
        due(x.node(NONE, 0), 12, "NODES");
        Calls.notion(x, "iiiiii");
        due(x.derives(), 0, "a chain of thirteen");
        due(x.steps(0), 13, "STEPS");
        due(x.steps(2), 1, "ends of DEPTH");
        due(x.steps(3), 12, "the greatest depth");
    }

    // ---- FREE METANOTIONS ----

    static void termFreeMetanotionThatHasNoWordsIsNotTried() {
        TwoLevels x = asked("A=aaa;s:t,\"A/\"b;t:", "s", "aaa");
        due(x.derives(), 0, "LONG 2");
        due(x.steps(0), 1, "t is not asked");
        x.settle(1, 3);
        due(x.derives(), 1, "LONG 3");
        due(x.steps(0), 2, "t is asked");
        TwoLevels y = asked("A=A;B=b;s:t,AB;t:", "s", "");
        due(y.steps(0), 1, "one that derives nothing at all, and another one");
        due(y.steps(1), 0, "s is not BLIND");
    }

    static void termFreeMetanotionOfTheEmptyWord() {
        TwoLevels x = asked("A=|a;s:tA;t:;ta:\"x", "s", "x");
        x.settle(1, 0);
        due(x.derives(), 0, "LONG 0");
        due(x.steps(0), 2, "t alone is asked");
        Calls.text(x, "");
        due(x.free(0, 'A', NONE), 0, "A stands for nothing");
        Calls.text(x, "x");
        x.settle(1, 1);
        due(x.derives(), 1, "LONG 1");
        due(x.steps(0), 3, "t, then ta");
    }

    static void termFreeMetanotionStandsForNoMoreThanItHas() {
        TwoLevels x = asked(TWENTY + "s:\"C;u:\"E;E=|C", "s", "ad");
        due(x.derives(), 1, "the 12th of C");
        due(x.free(0, 'C', 1), 'd', "its letter");
        Calls.text(x, "cd");
        due(x.derives(), 1, "the 20th of C");
        Calls.text(x, "da");
        due(x.derives(), 0, "the 21st of C");
        ask(x, "u", "cc");
        due(x.derives(), 1, "the 20th of E");
        Calls.text(x, "cd");
        due(x.derives(), 0, "the 21st of E");
        ask(x, "da", "");
        due(x.is('C'), 1, "but it is a word");
    }

    static void termFreeMetanotionThatStandsFirstChangesLast() {
        TwoLevels x = asked("A=a|b;B=c|d;s:\"x,BA;cb:;da:", "s", "x");
        due(x.free(0, 'B', 0), 'c', "B, which stands first");
        due(x.free(0, 'A', 0), 'b', "A, which changed");
        TwoLevels y = asked("A=a|b;B=c|d;s:AB;ad:;bc:", "s", "");
        due(y.free(0, 'A', 0), 'a', "A, which stands first");
        due(y.free(0, 'B', 0), 'd', "B, which changed");
        due(y.steps(0), 3, "ac, ad");
    }

    static void termFreeMetanotionsOfOneToken() {
        TwoLevels x = asked("A=a|ab;B=|b|c;s:\"xAB", "s", "xabc");
        due(x.derives(), 1, "xabc");
        due(x.free(0, 'A', NONE), 2, "A is ab");
        due(x.free(0, 'B', 0), 'c', "B is c");
        Calls.text(x, "xab");
        due(x.derives(), 1, "xab");
        due(x.free(0, 'A', NONE), 1, "A is a");
        due(x.free(0, 'B', 0), 'b', "B is b");
        Calls.text(x, "xa");
        due(x.derives(), 1, "xa");
        due(x.free(0, 'B', NONE), 0, "B is nothing");
        for (String text : new String[] {"", "x", "xb", "axa", "xabbb", "xacc", "yab", "xa b", "xa xa"}) {
            Calls.text(x, text);
            due(x.derives(), 0, text);
        }
    }

    static void termFreeMetanotionsOfSeveralTokens() {
        TwoLevels x = asked("A=a|b;B=c|cc;s:\"A,\"AB,\"B/\"x,\"AA,AB;acc:;bc:\"y,\"y", "s", "b bcc cc");
        due(x.derives(), 1, "b bcc cc");
        due(x.free(0, 'A', 0), 'b', "A is b");
        due(x.free(0, 'B', NONE), 2, "B is cc");
        for (String text : new String[] {"a bcc cc", "b bcc c", "b b cc", "b bcc", "b bcc cc cc", "x ab", "x aa y y", "x bb"}) {
            Calls.text(x, text);
            due(x.derives(), 0, text);
        }
        Calls.text(x, "x aa");
        due(x.derives(), 1, "x aa");
        due(x.steps(0), 3, "ac, acc");
        Calls.text(x, "x bb y y");
        due(x.derives(), 1, "x bb y y");
        due(x.steps(0), 2, "bc");
        due(x.node(1, 3), 2, "bc from the third WORD on");
    }

    static void termFreeMetanotionBehindTooManyLetters() {
        TwoLevels x = asked("A=aa;B=|b;xA:\"AAB,AAAAAB/AAAAAB;yA:AAAAAx,tB;t:;A:", "xaa", "aaaa");
        due(x.derives(), 0, "ten letters and B");
        due(x.steps(0), 3, "those with B empty alone, once in each alternative");
        Calls.notion(x, "yaa");
        Calls.text(x, "");
        due(x.derives(), 0, "eleven letters");
        due(x.steps(0), 1, "t is not asked");
    }

    // ---- TOKENS and NOTIONS ----

    static void termTokenOfMoreThanTenLettersIsNone() {
        TwoLevels x = asked("N=|aN;xN:\"NNNNN;yN:\"NNNNNa/\"aNNNNN", "xaa", "aaaaaaaaaa");
        due(x.derives(), 1, "ten letters");
        Calls.notion(x, "yaa");
        due(x.derives(), 0, "eleven letters");
        Calls.notion(x, "ya");
        Calls.text(x, "aaaaaa");
        due(x.derives(), 1, "six letters");
    }

    static void termTokenOfNoLettersIsNoWord() {
        TwoLevels x = asked("E=;s:\"E/\"E,t;t:", "s", "");
        due(x.derives(), 0, "no WORDS");
        due(x.steps(0), 1, "t is not asked");
        Calls.text(x, "e");
        due(x.derives(), 0, "a WORD");
    }

    static void termTokenIsOneWordThatIsJustSo() {
        TwoLevels x = asked("s:\"ab", "s", "ab");
        due(x.derives(), 1, "ab");
        for (String text : new String[] {"", "a", "abc", "aab", "a b", "ab ab", "ba"}) {
            Calls.text(x, text);
            due(x.derives(), 0, text);
        }
    }

    static void termAlternativeOfNoMemberDerivesNoWord() {
        TwoLevels x = asked("s:", "s", "");
        due(x.derives(), 1, "no WORD");
        Calls.text(x, "x");
        due(x.derives(), 0, "one WORD");
        due(x.holds(), 1, "holds");
    }

    static void termMembersMakeUpAllTheWords() {
        TwoLevels x = asked("s:t,\"y;t:/\"x", "s", "x y");
        due(x.derives(), 1, "x y");
        due(x.steps(0), 3, "s, t for none, t for one");
        due(x.node(1, 4), 1, "t derives one");
        Calls.text(x, "y");
        due(x.derives(), 1, "y");
        due(x.steps(0), 2, "s, t for none");
        Calls.text(x, "x y y");
        due(x.derives(), 0, "one more");
        due(x.steps(0), 5, "s, t for none, one, two, three");
        Calls.text(x, "x");
        due(x.derives(), 0, "one less");
    }

    static void termNotionIsAskedForNoWordUpToAllThatAreLeft() {
        TwoLevels x = asked("s:t,u", "s", "");
        String text = "";
        for (int words = 0; words <= 8; words++) {
            Calls.text(x, text);
            due(x.steps(0), 1 + words + 1, "STEPS for " + words + " WORDS");
            due(x.steps(1), words + 1, "each time t is BLIND");
            text += " x";
        }
        TwoLevels y = asked("s:\"x,t,u", "s", "x y y");
        due(y.steps(0), 4, "behind a TOKEN: none, one, two");
    }

    static void termLastNotionIsAskedForAllThatAreLeft() {
        TwoLevels x = asked("s:t", "s", "x x x");
        due(x.steps(0), 2, "t for three");
        x = asked("s:\"x,t;t:\"y,\"y", "s", "x y y");
        due(x.derives(), 1, "t for two");
        due(x.steps(0), 2, "t once");
        x = asked("s:t,t,t;t:", "s", "x");
        due(x.steps(0), 6, "s; t for none, t for none, t for one; the second t for one; the first t for one");
    }

    static void termNotionThatDoesOnceIsNotLookedForAgain() {
        TwoLevels x = asked("s:t,u;t:v/w;v:;w:;u:\"x", "s", "");
        due(x.derives(), 0, "u derives a WORD");
        due(x.steps(0), 4, "s, t, v, u: not w");
    }

    static void termFirstWayEndsTheSearch() {
        TwoLevels x = asked("s:t/t/u;s:u;t:", "s", "");
        due(x.derives(), 1, "derives");
        due(x.steps(0), 2, "s, t");
        due(x.steps(1), 0, "u is not asked");
        due(x.node(0, 1), 0, "by the first alternative");
    }

    // ---- 500 STEPS ----

    /** 481 STEPS for five WORDS, and one for each z; then what is behind. */
    private static TwoLevels manySteps(int more, String behind) {
        StringBuilder grammar = new StringBuilder(TWENTY).append("s:C,y/C,y/C,y/C,y");
        for (int k = 0; k < more; k++) grammar.append(k % 4 == 0 ? ";s:z" : "/z");
        return asked(grammar + behind, "s", "x x x x x");
    }

    static void termSearchOfFiveHundredStepsIsAnswered() {
        TwoLevels x = manySteps(0, "");
        due(x.steps(0), 1 + 4 * 20 * 6, "STEPS without z");
        x = manySteps(18, "");
        due(x.steps(0), 499, "STEPS of 499");
        x = manySteps(19, "");
        due(x.derives(), 0, "derives by 500");
        due(x.steps(0), 500, "STEPS of 500");
        due(x.steps(1), 499, "BLIND ones of 500");
        due(x.steps(2), 0, "ends of DEPTH of 500");
        due(x.steps(3), 1, "the greatest depth of 500");
        due(x.least(), -2, "least by 500");
    }

    static void termSearchBehindFiveHundredStepsHasNoAnswer() {
        TwoLevels x = manySteps(20, "");
        due(x.derives(), -3, "derives by 501");
        for (int what = 0; what < 4; what++) due(x.steps(what), -3, "steps(" + what + ") by 501");
        due(x.least(), -3, "least by 501");
        due(x.holds(), 0, "holds has fewer");
        due(x.node(NONE, 0), NONE, "no NODES");
        due(x.checked(), -2, "no DERIVATION");
    }

    static void termSearchThatDerivesByItsLastStep() {
        String way = ";s:w;w:\"x,v;v:\"x,\"x,\"x,\"x";
        TwoLevels x = manySteps(17, way);
        due(x.derives(), 1, "by the 500th");
        due(x.steps(0), 500, "STEPS");
        due(x.node(NONE, 0), 3, "NODES");
        due(x.node(2, 4), 4, "WORDS of v");
        due(x.checked(), NONE, "checked");
        x = manySteps(18, way);
        due(x.derives(), -3, "by the 501st");
        due(x.node(NONE, 0), NONE, "no NODES");
        due(x.node(0, 0), NONE, "no NODE");
        due(x.spelled(0, 0), NONE, "no letter");
        due(x.checked(), -2, "no DERIVATION");
    }

    static void termSearchForNothingHasFiveHundredStepsToo() {
        String grammar = TWENTY + "s:C,D/C,y/C,y/C,y;s:C,y/z/z/z;s:z/z/z/z;s:z/z/z/z;s:z/z/z/z;s:z/z/z";
        TwoLevels x = asked(grammar, "s", "q");
        due(x.holds(), 0, "499");
        due(x.derives(), -3, "each is asked for one WORD, too");
        Calls.text(x, "");
        due(x.steps(0), 499, "STEPS");
        x = asked(grammar + "/z", "s", "");
        due(x.holds(), 0, "500");
        due(x.steps(0), 500, "STEPS");
        x = asked(grammar + "/z;s:z", "s", "");
        due(x.holds(), -3, "501");
        x = asked(grammar + "/w;w:", "s", "");
        due(x.holds(), 1, "by the 500th");
        due(x.least(), 2, "least by the 500th");
        x = asked(grammar + "/z;s:w;w:", "s", "");
        due(x.holds(), -3, "by the 501st");
        due(x.least(), -3, "least by the 501st");
    }

    // ---- THE DERIVATION ----

    static void termNodesOfOneNotionAlone() {
        TwoLevels x = asked("s:", "s", "");
        due(x.node(NONE, 0), 1, "NODES");
        due(x.node(0, 4), 0, "WORDS");
        due(x.node(0, 5), NONE, "the NODE above");
        due(x.node(0, 7), 0, "how deep");
        due(x.node(1, 0), NONE, "a second one");
    }

    static void termNodesOfNoWordAreNodesToo() {
        TwoLevels x = asked("s:t,u,t;t:;u:\"x,t", "s", "x");
        due(x.node(NONE, 0), 5, "NODES: s, t, u, t, t");
        int[] above = {NONE, 0, 0, 2, 0};
        int[] from = {0, 0, 0, 1, 1};
        int[] words = {1, 0, 1, 0, 0};
        for (int k = 0; k < 5; k++) {
            due(x.node(k, 5), above[k], "the NODE above " + k);
            due(x.node(k, 3), from[k], "the first WORD of " + k);
            due(x.node(k, 4), words[k], "WORDS of " + k);
        }
    }

    static void termNodesTriedInVainAreNone() {
        TwoLevels x = asked("s:t,t,\"y/t,\"x;t:u;u:", "s", "x");
        due(x.node(NONE, 0), 3, "NODES: s, t, u");
        due(x.node(0, 1), 1, "by the second alternative");
        for (int k = 3; k <= 5; k++) due(x.node(k, 0), NONE, "node(" + k + ", 0)");
        due(x.steps(0), 11, "STEPS: s; t and u for none, twice; for one, twice; for none");
    }

    // ---- ACTS and SHELVES ----

    static void termActsAreSettingsToldAndRulesDroppedAndSwapped() {
        TwoLevels x = told("a:;b:;c:");
        x.settle(0, 1);
        due(x.count(7), 1, "DEPTH");
        x.settle(1, 0);
        due(x.count(7), 2, "LONG");
        x.swap(0, 1);
        due(x.count(7), 3, "swap");
        x.drop(0);
        due(x.count(7), 4, "drop");
        x.keep(0);
        ask(x, "a", "b");
        x.derives();
        x.feed(0, 0, 0, 0, 0);
        x.end(0);
        due(x.count(7), 4, "others are none");
        x.settle(0, 1);
        x.swap(0, 0);
        x.drop(2);
        due(x.count(7), 4, "those of which nothing comes are none");
    }

    static void termActsOfWhichTheLastTenCanBeUndone() {
        TwoLevels x = told("a:;b:;c:;d:;e:;f:;g:;h:;i:;j:");
        for (int k = 1; k <= 9; k++) x.drop(0);
        due(x.count(7), 9, "nine");
        x.settle(0, 1);
        due(x.count(7), 10, "ten");
        x.settle(1, 0);
        due(x.count(7), 10, "eleven");
        due(x.undo(), 9, "the eleventh");
        due(x.count(6), 2, "LONG");
        due(x.undo(), 8, "the tenth");
        due(x.count(5), 6, "DEPTH");
        for (int k = 7; k >= 0; k--) {
            due(x.undo(), k, "a drop");
            due(x.count(1), 9 - k, "RULES");
        }
        due(x.undo(), NONE, "the first");
        due(x.count(1), 9, "RULES");
        due(x.head(0, 0), 'b', "RULE 0");
    }

    static void termActsBehindAnUndoneOneTakeItsPlace() {
        TwoLevels x = new TwoLevels();
        for (int depth = 1; depth <= 12; depth++) x.settle(0, depth);
        due(x.count(7), 10, "of twelve ACTS");
        for (int k = 0; k < 5; k++) x.undo();
        due(x.count(5), 7, "DEPTH");
        x.settle(0, 1);
        due(x.count(7), 6, "six");
        due(x.undo(), 5, "that one");
        due(x.count(5), 7, "DEPTH");
        due(x.undo(), 4, "the one ahead of it");
        due(x.count(5), 6, "DEPTH");
    }

    static void termActsUndoneLeaveNotionAndText() {
        TwoLevels x = asked("a:;b:", "a", "x y");
        x.drop(0);
        ask(x, "bcd", "z");
        x.undo();
        due(x.count(4), 3, "THE NOTION");
        due(x.letter(NONE, 2), 'd', "its last letter");
        due(x.count(3), 1, "THE TEXT");
        due(x.letter(0, 0), 'z', "its letter");
    }

    static void termShelvesAreTwo() {
        TwoLevels x = told("a:;b:");
        due(x.keep(-1), NONE, "keep(-1)");
        due(x.keep(0), 2, "keep(0)");
        x.drop(0);
        due(x.keep(1), 1, "keep(1)");
        due(x.keep(2), NONE, "keep(2)");
        x.drop(0);
        due(x.back(-1), NONE, "back(-1)");
        due(x.back(2), NONE, "back(2)");
        due(x.back(0), 2, "back(0)");
        due(x.back(1), 1, "back(1)");
    }

    static void termShelfHasGrammarSettingsNotionAndText() {
        TwoLevels x = asked("A=a;Ab:\"A", "ab", "a");
        x.settle(0, 3);
        x.settle(1, 1);
        x.keep(1);
        Calls.tell(x, "c:;d:");
        ask(x, "", "q r s");
        x.settle(0, 4);
        x.settle(1, 0);
        Calls.put(x, "tape");
        due(x.back(1), 1, "back(1)");
        due(x.count(0), 1, "METANOTIONS");
        due(x.head(0, 1), 'b', "the HEAD");
        due(x.count(5), 3, "DEPTH");
        due(x.count(6), 1, "LONG");
        due(x.letter(NONE, 1), 'b', "THE NOTION");
        due(x.count(3), 1, "THE TEXT");
        due(x.letter(0, 0), 'a', "its letter");
        due(x.count(8), 4, "the TAPE stays");
        due(x.derives(), 1, "derives");
    }
}
