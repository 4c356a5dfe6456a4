import java.lang.reflect.Method;

/**
 * The boundary cases that the document's promises name, a test each: too small, too large, empty, full, refused. The
 * name of a test begins with the promise's number.
 */
public final class BoundaryTests extends Checks {
    private static final int PROMISES = 32;
    private static final int[] ODD = {LOW, LOW + 1, -100, -3, HIGH - 1, HIGH};

    private BoundaryTests() {
    }

    public static void main(String[] args) throws IllegalAccessException {
        runAll(BoundaryTests.class);
        eachPromiseHasATest();
        finish();
    }

    private static void eachPromiseHasATest() {
        about("BoundaryTests");
        for (int p = 1; p <= PROMISES; p++) {
            String begin = String.format("promise%02d", p);
            int found = 0;
            for (Method m : BoundaryTests.class.getDeclaredMethods()) found += m.getName().startsWith(begin) ? 1 : 0;
            due(found > 0 ? 1 : 0, 1, "a test of promise " + p);
        }
    }

    private static int feedZeros(TwoLevels x) {
        return x.feed(0, 0, 0, 0, 0);
    }

    // ---- 1: a new object ----

    static void promise01NoGrammar() {
        TwoLevels x = new TwoLevels();
        due(x.count(0), 0, "METANOTIONS");
        due(x.count(1), 0, "RULES");
        due(x.count(2), 0, "alternatives");
        due(x.count(10), 0, "METANOTIONS that derive nothing");
        for (int name = 'A'; name <= 'Z'; name++) due(x.meta(name, 0), NONE, "meta " + (char) name);
        due(x.rule(0, 0), NONE, "rule(0, 0)");
        due(x.drop(0), NONE, "drop(0)");
        due(x.swap(0, 0), NONE, "swap(0, 0)");
    }

    static void promise01NothingIsToldKeptOrUndone() {
        TwoLevels x = new TwoLevels();
        due(x.count(3), 0, "WORDS of THE TEXT");
        due(x.count(4), 0, "letters of THE NOTION");
        due(x.count(5), 6, "DEPTH");
        due(x.count(6), 2, "LONG");
        due(x.count(7), 0, "ACTS");
        due(x.count(8), 0, "bytes of the TAPE");
        due(x.count(9), 0, "SHELVES");
        due(x.undo(), NONE, "undo");
        due(x.back(0), -2, "back(0)");
        due(x.back(1), -2, "back(1)");
    }

    static void promise01TheEmptyNotionIsSearchedFor() {
        TwoLevels x = new TwoLevels();
        due(x.blind(), 0, "blind");
        due(x.holds(), 0, "holds");
        due(x.derives(), 0, "derives");
        due(x.steps(0), 1, "STEPS");
        due(x.steps(1), 1, "BLIND ones");
        due(x.steps(2), 0, "ends of DEPTH");
        due(x.steps(3), 0, "the greatest depth");
        due(x.least(), -2, "least");
        due(x.node(NONE, 0), NONE, "NODES");
        due(x.checked(), -2, "checked");
    }

    static void promise01ObjectsDoNotShareAnything() {
        TwoLevels x = busy();
        TwoLevels y = new TwoLevels();
        due(y.count(1) + y.count(3) + y.count(4) + y.count(7) + y.count(8) + y.count(9), 0, "another object");
        Calls.tell(y, "q:");
        due(x.count(1), 5, "RULES of the first");
        due(x.count(8), 2, "its TAPE");
    }

    static void promise01The512thCallIsAnswered() {
        TwoLevels x = new TwoLevels();
        for (int k = 1; k <= 510; k++) due(x.settle(1, k % 2), k == 1 ? 2 : 1 - k % 2, "call " + k);
        due(x.count(7), 10, "call 511");
        due(x.undo(), 9, "call 512");
    }

    // ---- 2: feed ----

    static void promise02TapeIsFullAt500() {
        TwoLevels x = new TwoLevels();
        for (int k = 1; k <= 25; k++) due(feedZeros(x), 20 * k, "feed " + k);
        refused(x, NONE, () -> feedZeros(x), "feed 26");
        due(x.count(8), 500, "bytes");
    }

    static void promise02BytesThatWouldBe501To519AreRefused() {
        TwoLevels x = new TwoLevels();
        for (int k = 1; k <= 25; k++) feedZeros(x);
        for (int size = 499; size > 480; size--) {
            due(x.end(size), size, "end");
            due(feedZeros(x), NONE, "feed behind " + size);
            due(x.count(8), size, "bytes");
        }
        due(x.end(480), 480, "end(480)");
        due(feedZeros(x), 500, "feed behind 480");
    }

    static void promise02RefusedBytesDoNotCome() {
        TwoLevels x = new TwoLevels();
        Calls.put(x, many(" ", 490) + "a:b");
        due(x.feed(0x31313131, 0x31313131, 0x31313131, 0x31313131, 0x31313131), NONE, "feed behind 493");
        due(x.tell(), 1, "tell");
        due(feedZeros(x), 20, "the TAPE is empty then");
    }

    static void promise02OfEachNumberTheHighestByteComesFirst() {
        TwoLevels x = new TwoLevels();
        x.feed(0x61626364, 0x20656667, 0x68206969, 0x6A6B206C, 0x6D6E6F70);
        due(x.text(), 4, "WORDS");
        String[] words = {"abcd", "efgh", "iijk", "lmnop"};
        for (int k = 0; k < 4; k++) {
            for (int i = 0; i < words[k].length(); i++) due(x.letter(k, i), words[k].charAt(i), "letter " + k + ", " + i);
            due(x.letter(k, words[k].length()), -2, "a letter behind the last");
        }
    }

    static void promise02BytesAreThoseOfNegativeNumbersToo() {
        int[] numbers = {-1, LOW, 0x80616161, 0xFF616161};
        for (int n : numbers) {
            TwoLevels x = new TwoLevels();
            x.feed(0x61612020, n, 0, 0, 0);
            due(x.text(), faulty(4, 1), "byte 4 of " + n);
        }
        TwoLevels y = new TwoLevels();
        y.feed(0x616161FF, 0, 0, 0, 0);
        due(y.notion(), faulty(3, 1), "byte 3");
        y.feed(HIGH, 0, 0, 0, 0);
        due(y.notion(), faulty(0, 1), "byte 0");
    }

    static void promise02BytesComeBehindThoseThatAreLeft() {
        TwoLevels x = new TwoLevels();
        x.feed(0x61626300, 0, 0, 0, 0);
        x.end(2);
        due(x.feed(0x78797A00, 0, 0, 0, 0), 22, "feed behind 2");
        x.end(5);
        due(x.notion(), 5, "notion");
        String want = "abxyz";
        for (int i = 0; i < 5; i++) due(x.letter(NONE, i), want.charAt(i), "letter " + i);
    }

    // ---- 3: end ----

    static void promise03AllOrNoBytesOfTheTape() {
        TwoLevels x = new TwoLevels();
        due(x.end(0), 0, "end(0) of an empty TAPE");
        feedZeros(x);
        due(x.end(20), 20, "end(20)");
        due(x.count(8), 20, "bytes");
        due(x.end(19), 19, "end(19)");
        due(x.end(0), 0, "end(0)");
        due(x.count(8), 0, "bytes");
    }

    static void promise03MoreThanItHasIsRefused() {
        TwoLevels x = busy();
        refused(x, NONE, () -> x.end(3), "end(3) of two bytes");
        refused(x, NONE, () -> x.end(HIGH), "end of the highest");
        x.end(1);
        refused(x, NONE, () -> x.end(2), "end(2) of one byte");
        x.end(0);
        refused(x, NONE, () -> x.end(1), "end(1) of none");
        TwoLevels y = new TwoLevels();
        for (int k = 1; k <= 25; k++) feedZeros(y);
        due(y.end(501), NONE, "end(501) of a full TAPE");
        due(y.end(500), 500, "end(500) of a full TAPE");
    }

    static void promise03BelowNoneIsRefused() {
        refused(NONE, x -> x.end(-1), "end(-1)");
        refused(NONE, x -> x.end(LOW), "end of the lowest");
        due(new TwoLevels().end(-1), NONE, "end(-1) of an empty TAPE");
    }

    // ---- 4: tell ----

    static void promise04TheEmptyTapeTellsNoGrammar() {
        TwoLevels x = busy();
        x.end(0);
        due(x.tell(), 0, "tell");
        due(x.count(0) + x.count(1), 0, "METANOTIONS and RULES");
        due(x.count(3) + x.count(4) + x.count(7), 0, "THE TEXT, THE NOTION, ACTS");
        due(new TwoLevels().tell(), 0, "tell of a new object");
    }

    static void promise04TheTapeIsEmptyThen() {
        TwoLevels x = new TwoLevels();
        Calls.tell(x, "a:");
        due(x.count(8), 0, "behind a GRAMMAR");
        Calls.tell(x, "a");
        due(x.count(8), 0, "behind a text that is none");
        due(x.end(1), NONE, "end(1)");
    }

    static void promise04AnotherGrammarEmptiesNotionTextAndActs() {
        TwoLevels x = busy();
        due(x.count(7), 2, "ACTS");
        due(x.derives(), 1, "derives");
        due(x.least(), 3, "least");
        x.end(0);
        due(Calls.tell(x, "a:;b:"), 2, "tell");
        due(x.count(0), 0, "METANOTIONS");
        due(x.meta('N', 0), NONE, "N");
        due(x.count(3), 0, "WORDS");
        due(x.letter(0, 0), NONE, "of THE TEXT");
        due(x.count(4), 0, "letters");
        due(x.letter(NONE, 0), -2, "of THE NOTION");
        due(x.count(7), 0, "ACTS");
        due(x.undo(), NONE, "undo");
        due(x.derives(), 0, "derives by another GRAMMAR");
        due(x.least(), -2, "least by another GRAMMAR");
    }

    static void promise04ShelvesAndSettingsStay() {
        TwoLevels x = busy();
        x.settle(1, 3);
        x.end(0);
        Calls.tell(x, "a:");
        due(x.count(5), 7, "DEPTH");
        due(x.count(6), 3, "LONG");
        due(x.count(9), 2, "SHELVES");
        due(x.back(1), 5, "back(1)");
        due(x.count(6), 2, "LONG as it was KEPT");
        due(x.derives(), 1, "derives");
    }

    static void promise04ATextThatIsNoneChangesNothingButTheTape() {
        for (String text : new String[] {"a", "A=;A=", "a:Z", "abcdefg:", "a:////"}) {
            TwoLevels x = busy();
            x.end(0);
            refused(x, Calls.tell(new TwoLevels(), text), () -> Calls.tell(x, text), "tell of " + text);
            due(x.undo(), 1, "undo");
            due(x.derives(), 1, "derives");
            due(Calls.tell(x, "a:;b:"), 2, "a GRAMMAR behind it");
        }
    }

    static void promise04TheLeastAndTheGreatestFault() {
        due(Calls.tell(new TwoLevels(), ":"), -3, "place 0, 1");
        due(Calls.tell(new TwoLevels(), "A:"), -7, "place 0, 5");
        due(Calls.tell(new TwoLevels(), many(" ", 499) + "a"), -2 - 4001, "place 500, 1");
        due(Calls.tell(new TwoLevels(), many(" ", 497) + "a:B"), -2 - (8 * 499 + 5), "place 499, 5");
    }

    // ---- 5: notion ----

    static void promise05NoLetterToTenLetters() {
        TwoLevels x = new TwoLevels();
        for (int size = 0; size <= 10; size++) {
            due(Calls.notion(x, "abcdefghij".substring(0, size)), size, "notion");
            due(x.count(4), size, "letters");
            due(x.letter(NONE, size), -2, "a letter behind the last");
        }
        due(x.letter(NONE, 9), 'j', "the tenth");
        refused(x, faulty(10, 2), () -> Calls.notion(x, "abcdefghijk"), "eleven letters");
        refused(x, faulty(10, 2), () -> Calls.notion(x, many("z", 500)), "500 letters");
    }

    static void promise05TheEmptyTapeIsTheEmptyNotion() {
        TwoLevels x = busy();
        x.end(0);
        due(x.notion(), 0, "notion");
        due(x.count(4), 0, "letters");
        due(x.derives(), 0, "derives");
    }

    static void promise05LettersFromAToZAlone() {
        for (int b = 0; b < 256; b++) {
            boolean small = b >= 'a' && b <= 'z';
            String one = "" + (char) b;
            TwoLevels x = asked("", "q", "");
            due(Calls.notion(x, one), small ? 1 : -3, "byte " + b);
            due(x.letter(NONE, 0), small ? b : 'q', "THE NOTION behind byte " + b);
            due(x.count(8), 0, "the TAPE behind byte " + b);
        }
    }

    static void promise05BlanksCannotStand() {
        TwoLevels x = asked("", "q", "");
        refused(x, faulty(0, 1), () -> Calls.notion(x, " a"), "a blank ahead");
        refused(x, faulty(1, 1), () -> Calls.notion(x, "a "), "a blank behind");
        refused(x, faulty(1, 1), () -> Calls.notion(x, "a b"), "a blank between");
        refused(x, faulty(10, 1), () -> Calls.notion(x, "abcdefghij "), "a blank behind ten letters");
    }

    static void promise05OfOnePlaceTheLeastFault() {
        TwoLevels x = asked("", "q", "");
        refused(x, faulty(10, 1), () -> Calls.notion(x, "abcdefghijK"), "a capital in the eleventh place");
        refused(x, faulty(10, 2), () -> Calls.notion(x, "abcdefghijkL"), "a capital behind the eleventh");
        refused(x, faulty(9, 1), () -> Calls.notion(x, "abcdefghiJk"), "a capital in the tenth");
    }

    static void promise05IsNoAct() {
        TwoLevels x = busy();
        x.end(0);
        due(Calls.notion(x, "aii"), 3, "notion");
        due(x.count(7), 2, "ACTS");
        due(x.count(3), 4, "THE TEXT");
        due(x.count(1), 5, "RULES");
    }

    // ---- 6: text ----

    static void promise06NoWordToEightWords() {
        TwoLevels x = new TwoLevels();
        String text = "";
        for (int words = 0; words <= 8; words++) {
            due(Calls.text(x, text), words, "text");
            due(x.count(3), words, "WORDS");
            due(x.letter(words, 0), NONE, "a WORD behind the last");
            text += (words == 0 ? "" : " ") + (char) ('a' + words);
        }
        due(x.letter(7, 0), 'h', "the eighth");
        refused(x, faulty(16, 3), () -> Calls.text(x, "a b c d e f g h i"), "nine WORDS");
        refused(x, faulty(18, 3), () -> Calls.text(x, "a b c d e f g h   i"), "nine WORDS, blanks between");
        due(Calls.text(x, "a b c d e f g h   "), 8, "blanks behind the eighth");
    }

    static void promise06WordOfOneToTenLetters() {
        TwoLevels x = new TwoLevels();
        due(Calls.text(x, "abcdefghij"), 1, "ten letters");
        due(x.letter(0, 9), 'j', "the tenth");
        due(Calls.text(x, many("abcdefghij ", 8)), 8, "eight WORDS of ten letters");
        due(x.letter(7, 9), 'j', "the last");
        refused(x, faulty(10, 2), () -> Calls.text(x, "abcdefghijk"), "eleven letters");
        refused(x, faulty(87, 2), () -> Calls.text(x, many("abcdefghij ", 7) + "abcdefghijk"), "eleven letters in the eighth");
        due(Calls.text(x, "abcde fghijk"), 2, "eleven letters of two WORDS");
    }

    static void promise06TheEmptyTapeAndBlanksAreNoWords() {
        TwoLevels x = busy();
        x.end(0);
        due(x.text(), 0, "the empty TAPE");
        due(x.count(3), 0, "WORDS");
        Calls.text(x, "a");
        due(Calls.text(x, " "), 0, "a blank");
        due(x.count(3), 0, "WORDS");
        due(Calls.text(x, many(" ", 500)), 0, "500 blanks");
    }

    static void promise06BlanksAheadBetweenAndBehind() {
        TwoLevels x = new TwoLevels();
        due(Calls.text(x, "  ab   c  "), 2, "text");
        due(x.letter(0, 0), 'a', "the first WORD");
        due(x.letter(0, 1), 'b', "the first WORD");
        due(x.letter(0, 2), -2, "the first WORD");
        due(x.letter(1, 0), 'c', "the second WORD");
        due(Calls.text(x, many(" ", 499) + "z"), 1, "499 blanks ahead");
        due(x.letter(0, 0), 'z', "its letter");
    }

    static void promise06LettersAndBlanksAlone() {
        for (int b = 0; b < 256; b++) {
            boolean small = b >= 'a' && b <= 'z';
            TwoLevels x = asked("", "", "q");
            due(Calls.text(x, "a" + (char) b), small || b == ' ' ? 1 : faulty(1, 1), "byte " + b);
            due(x.letter(0, 1), small ? b : -2, "THE TEXT behind byte " + b);
            due(x.letter(0, 0), small || b == ' ' ? 'a' : 'q', "its first letter behind byte " + b);
        }
    }

    static void promise06OfOnePlaceTheLeastFault() {
        TwoLevels x = asked("", "", "q");
        refused(x, faulty(10, 1), () -> Calls.text(x, "abcdefghijK"), "a capital in the eleventh place");
        refused(x, faulty(16, 1), () -> Calls.text(x, "a b c d e f g h I"), "a capital where a ninth WORD would be");
        refused(x, faulty(16, 3), () -> Calls.text(x, "a b c d e f g h i I"), "a capital behind a ninth WORD");
        refused(x, faulty(24, 2), () -> Calls.text(x, "a b c d e f g hhhhhhhhhhhh i"), "eleven letters ahead of a ninth WORD");
        refused(x, faulty(10, 2), () -> Calls.text(x, "aaaaaaaaaaaA"), "a capital behind the eleventh letter");
    }

    static void promise06IsNoAct() {
        TwoLevels x = busy();
        x.end(0);
        due(Calls.text(x, "a b"), 2, "text");
        due(x.count(7), 2, "ACTS");
        due(x.count(4), 1, "THE NOTION");
        due(x.derives(), 1, "derives the new one");
    }

    // ---- 7: settle ----

    static void promise07DepthOneToTwelve() {
        TwoLevels y = new TwoLevels();
        int was = 6;
        for (int depth = 1; depth <= 12; depth++) {
            due(y.settle(0, depth), was, "DEPTH " + depth);
            due(y.count(5), depth, "DEPTH");
            was = depth;
        }
        refused(NONE, x -> x.settle(0, 0), "DEPTH 0");
        refused(NONE, x -> x.settle(0, 13), "DEPTH 13");
        refused(NONE, x -> x.settle(0, -1), "DEPTH -1");
        for (int value : ODD) refused(NONE, x -> x.settle(0, value), "DEPTH " + value);
    }

    static void promise07LongNoneToThree() {
        TwoLevels y = new TwoLevels();
        int was = 2;
        for (int value = 0; value <= 3; value++) {
            due(y.settle(1, value), was, "LONG " + value);
            due(y.count(6), value, "LONG");
            was = value;
        }
        refused(NONE, x -> x.settle(1, 4), "LONG 4");
        refused(NONE, x -> x.settle(1, -1), "LONG -1");
        for (int value : ODD) refused(NONE, x -> x.settle(1, value), "LONG " + value);
    }

    static void promise07WhatIsSoAlready() {
        TwoLevels x = new TwoLevels();
        refused(x, -2, () -> x.settle(0, 6), "DEPTH 6");
        refused(x, -2, () -> x.settle(1, 2), "LONG 2");
        x.settle(0, 12);
        x.settle(1, 0);
        refused(x, -2, () -> x.settle(0, 12), "DEPTH 12");
        refused(x, -2, () -> x.settle(1, 0), "LONG 0");
        due(x.count(7), 2, "ACTS");
    }

    static void promise07OtherSettings() {
        refused(NONE, x -> x.settle(2, 2), "settle(2, 2)");
        refused(NONE, x -> x.settle(-1, 2), "settle(-1, 2)");
        for (int what : ODD) refused(NONE, x -> x.settle(what, 3), "settle(" + what + ", 3)");
    }

    static void promise07EachSettingByItself() {
        TwoLevels x = new TwoLevels();
        x.settle(0, 3);
        due(x.count(6), 2, "LONG");
        due(x.settle(1, 3), 2, "LONG 3");
        due(x.count(5), 3, "DEPTH");
    }

    // ---- 8: drop ----

    static void promise08TheFirstAndTheLastRule() {
        TwoLevels x = told("a:;b:;c:;d:");
        due(x.drop(3), 3, "the last");
        due(x.head(2, 0), 'c', "RULE 2");
        due(x.head(3, 0), NONE, "RULE 3");
        due(x.drop(0), 2, "the first");
        due(x.head(0, 0), 'b', "RULE 0");
        due(x.head(1, 0), 'c', "RULE 1");
        due(x.head(2, 0), NONE, "RULE 2");
    }

    static void promise08OneBetweenOthers() {
        TwoLevels x = told("a:;b:x/;c:;d:x/y/z");
        due(x.drop(1), 3, "drop(1)");
        due(x.head(0, 0), 'a', "RULE 0");
        due(x.head(1, 0), 'c', "RULE 1");
        due(x.head(2, 0), 'd', "RULE 2");
        due(x.rule(2, 1), 3, "its alternatives");
    }

    static void promise08TheOnlyRule() {
        TwoLevels x = told("A=a;a:");
        due(x.drop(0), 0, "the only one");
        due(x.count(0), 1, "METANOTIONS stay");
        refused(x, NONE, () -> x.drop(0), "drop(0) of none");
        due(x.undo(), 0, "undo");
        due(x.head(0, 0), 'a', "it is back");
    }

    static void promise08WithoutThatRule() {
        refused(NONE, x -> x.drop(5), "drop(5) of five");
        refused(NONE, x -> x.drop(-1), "drop(-1)");
        for (int rule : ODD) refused(NONE, x -> x.drop(rule), "drop(" + rule + ")");
        due(new TwoLevels().drop(0), NONE, "a new object");
    }

    static void promise08AllTenOfTen() {
        TwoLevels x = told("a:;a:;a:;a:;a:;a:;a:;a:;a:;a:");
        due(x.drop(10), NONE, "drop(10)");
        for (int left = 9; left >= 0; left--) due(x.drop(left), left, "drop(" + left + ")");
        due(x.count(7), 10, "ACTS");
    }

    // ---- 9: swap ----

    static void promise09TheFirstAndTheLastRule() {
        TwoLevels x = told("a:;b:;c:");
        due(x.swap(0, 2), 1, "swap(0, 2)");
        due(x.head(0, 0), 'c', "RULE 0");
        due(x.head(1, 0), 'b', "RULE 1");
        due(x.head(2, 0), 'a', "RULE 2");
        due(x.swap(2, 1), 1, "swap(2, 1)");
        due(x.head(1, 0), 'a', "RULE 1");
        due(x.head(2, 0), 'b', "RULE 2");
    }

    static void promise09BothAreOne() {
        for (int r = 0; r < 5; r++) {
            int rule = r;
            refused(-2, x -> x.swap(rule, rule), "swap(" + r + ", " + r + ")");
        }
    }

    static void promise09WithoutThese() {
        refused(NONE, x -> x.swap(5, 5), "swap(5, 5)");
        refused(NONE, x -> x.swap(-1, -1), "swap(-1, -1)");
        refused(NONE, x -> x.swap(0, 5), "swap(0, 5)");
        refused(NONE, x -> x.swap(5, 0), "swap(5, 0)");
        refused(NONE, x -> x.swap(4, -1), "swap(4, -1)");
        refused(NONE, x -> x.swap(-1, 4), "swap(-1, 4)");
        for (int rule : ODD) {
            refused(NONE, x -> x.swap(rule, 0), "swap(" + rule + ", 0)");
            refused(NONE, x -> x.swap(0, rule), "swap(0, " + rule + ")");
            refused(NONE, x -> x.swap(rule, rule), "swap(" + rule + ", " + rule + ")");
        }
        due(new TwoLevels().swap(0, 0), NONE, "a new object");
    }

    static void promise09EqualRulesAreTwo() {
        TwoLevels x = told("a:;a:");
        due(x.swap(0, 1), 1, "swap(0, 1)");
        due(x.count(7), 1, "ACTS");
    }

    // ---- 10: undo ----

    static void promise10NoneCanBe() {
        TwoLevels x = asked("a:", "a", "b");
        refused(x, NONE, x::undo, "undo");
        x.drop(0);
        due(x.undo(), 0, "undo of one");
        refused(x, NONE, x::undo, "undo of none");
        due(x.count(1), 1, "RULES");
    }

    static void promise10TenOfTenAndTenOfEleven() {
        TwoLevels x = new TwoLevels();
        for (int k = 0; k < 10; k++) x.settle(0, k % 2 + 1);
        for (int k = 9; k >= 0; k--) due(x.undo(), k, "undo of ten");
        due(x.count(5), 6, "DEPTH as at first");
        due(x.undo(), NONE, "an eleventh");
        for (int k = 0; k < 11; k++) x.settle(0, k % 2 + 1);
        for (int k = 9; k >= 0; k--) due(x.undo(), k, "undo of eleven");
        due(x.count(5), 1, "DEPTH as behind the first ACT");
        due(x.undo(), NONE, "an eleventh");
    }

    static void promise10EachKindOfAct() {
        TwoLevels x = asked(COPIES, "s", "a b");
        x.drop(0);
        due(x.derives(), 0, "without RULE 0");
        due(x.undo(), 0, "drop undone");
        due(x.derives(), 1, "with it");
        x.swap(0, 4);
        due(x.node(0, 0), 4, "RULE 4");
        due(x.undo(), 0, "swap undone");
        due(x.node(0, 0), 0, "RULE 0");
        x.settle(0, 1);
        due(x.derives(), 0, "DEPTH 1");
        due(x.undo(), 0, "DEPTH undone");
        due(x.derives(), 1, "DEPTH 6");
        x.settle(1, 0);
        due(x.derives(), 0, "LONG 0");
        due(x.undo(), 0, "LONG undone");
        due(x.derives(), 1, "LONG 2");
    }

    static void promise10NothingBehindTellAndBack() {
        TwoLevels x = busy();
        due(x.back(1), 5, "back(1)");
        due(x.undo(), NONE, "undo behind back");
        x.settle(0, 3);
        x.end(0);
        Calls.tell(x, "a:");
        due(x.undo(), NONE, "undo behind tell");
        due(x.count(5), 3, "DEPTH");
        x.drop(0);
        due(x.undo(), 0, "an ACT behind it");
    }

    static void promise10LeavesShelvesAndTape() {
        TwoLevels x = busy();
        x.undo();
        x.undo();
        due(x.count(9), 2, "SHELVES");
        due(x.count(8), 2, "the TAPE");
        due(x.count(4), 1, "THE NOTION");
        due(x.count(3), 4, "THE TEXT");
    }

    // ---- 11: keep ----

    static void promise11TheTwoShelves() {
        TwoLevels x = told("a:;b:");
        due(x.keep(0), 2, "keep(0)");
        due(x.count(9), 1, "SHELVES");
        due(x.keep(1), 2, "keep(1)");
        due(x.count(9), 3, "SHELVES");
    }

    static void promise11WithoutThatShelf() {
        refused(NONE, x -> x.keep(2), "keep(2)");
        refused(NONE, x -> x.keep(-1), "keep(-1)");
        for (int shelf : ODD) refused(NONE, x -> x.keep(shelf), "keep(" + shelf + ")");
    }

    static void promise11AnEmptyObjectIsKeptToo() {
        TwoLevels x = new TwoLevels();
        due(x.keep(0), 0, "keep(0)");
        due(x.count(9), 1, "SHELVES");
        Calls.tell(x, "a:;b:");
        due(x.back(0), 0, "back(0)");
        due(x.count(1), 0, "RULES");
    }

    static void promise11TheLastOneKeptStays() {
        TwoLevels x = told("a:;b:;c:");
        x.keep(0);
        x.drop(0);
        due(x.keep(0), 2, "keep(0) again");
        due(x.undo(), 0, "ACTS stay");
        due(x.back(0), 2, "back(0)");
        due(x.head(0, 0), 'b', "RULE 0");
    }

    static void promise11WhatComesLaterDoesNotChangeIt() {
        TwoLevels x = busy();
        x.end(0);
        x.swap(0, 1);
        x.drop(0);
        x.settle(0, 1);
        x.settle(1, 0);
        ask(x, "b", "c");
        Calls.tell(x, "z:");
        due(x.back(1), 5, "back(1)");
        due(x.head(0, 0), 's', "RULE 0");
        due(x.derives(), 1, "derives");
        due(x.count(5), 7, "DEPTH");
        due(x.count(6), 2, "LONG");
    }

    // ---- 12: back ----

    static void promise12NothingIsKept() {
        TwoLevels x = busy();
        refused(x, -2, () -> x.back(0), "back(0)");
        TwoLevels y = new TwoLevels();
        refused(y, -2, () -> y.back(0), "back(0) of a new object");
        refused(y, -2, () -> y.back(1), "back(1) of a new object");
    }

    static void promise12WithoutThatShelf() {
        refused(NONE, x -> x.back(2), "back(2)");
        refused(NONE, x -> x.back(-1), "back(-1)");
        for (int shelf : ODD) refused(NONE, x -> x.back(shelf), "back(" + shelf + ")");
    }

    static void promise12NothingCanBeUndoneThen() {
        TwoLevels x = busy();
        due(x.count(7), 2, "ACTS");
        due(x.back(1), 5, "back(1)");
        due(x.count(7), 0, "ACTS");
        due(x.undo(), NONE, "undo");
        due(x.count(5), 7, "DEPTH");
    }

    static void promise12SearchesAreOfWhatIsBack() {
        TwoLevels x = asked("a:/\"x;b:a", "b", "x");
        x.keep(0);
        ask(x, "z", "");
        due(x.derives() + x.holds(), 0, "of another notion");
        due(x.least(), -2, "least of another notion");
        x.back(0);
        due(x.derives(), 1, "derives");
        due(x.holds(), 1, "holds");
        due(x.least(), 2, "least");
    }

    static void promise12TheSameShelfTwice() {
        TwoLevels x = busy();
        due(x.back(1), 5, "back(1)");
        x.drop(0);
        x.drop(0);
        due(x.back(1), 5, "back(1) again");
        due(x.count(9), 2, "SHELVES");
        due(x.count(8), 2, "the TAPE");
    }

    // ---- 13: letter ----

    static void promise13LettersOfTheNotion() {
        TwoLevels x = asked("", "abcdefghij", "");
        due(x.letter(NONE, 0), 'a', "the first");
        due(x.letter(NONE, 9), 'j', "the last");
        due(x.letter(NONE, 10), -2, "one more");
        due(x.letter(NONE, HIGH), -2, "the highest");
        due(x.letter(NONE, -1), NONE, "i below 0");
        due(x.letter(NONE, LOW), NONE, "the lowest");
    }

    static void promise13LettersOfTheEmptyNotion() {
        TwoLevels x = new TwoLevels();
        due(x.letter(NONE, 0), -2, "the first");
        due(x.letter(NONE, -1), NONE, "i below 0");
    }

    static void promise13LettersOfTheFirstAndTheLastWord() {
        TwoLevels x = asked("", "", "a b c d e f g abcdefghij");
        due(x.letter(0, 0), 'a', "the first WORD");
        due(x.letter(0, 1), -2, "one letter more");
        due(x.letter(7, 9), 'j', "the last WORD");
        due(x.letter(7, 10), -2, "one letter more");
        due(x.letter(7, HIGH), -2, "the highest");
        due(x.letter(7, -1), NONE, "i below 0");
    }

    static void promise13WithoutThatWord() {
        TwoLevels x = asked("", "z", "a b");
        due(x.letter(2, 0), NONE, "one more");
        due(x.letter(-2, 0), NONE, "k below NONE");
        due(x.letter(2, 99), NONE, "letters of one more");
        for (int k : ODD) due(x.letter(k, 0), NONE, "WORD " + k);
        due(new TwoLevels().letter(0, 0), NONE, "without a TEXT");
    }

    // ---- 14: meta ----

    static void promise14WithoutThatMetanotion() {
        TwoLevels x = told("A=a;Z=z");
        for (int name = -1; name <= 256; name++) {
            due(x.meta(name, 0), name == 'A' || name == 'Z' ? 1 : NONE, "letter " + name);
        }
        for (int name : ODD) due(x.meta(name, 0), NONE, "letter " + name);
        due(x.meta('A' + 256, 0), NONE, "A and 256");
    }

    static void promise14OtherQuestions() {
        TwoLevels x = told("A=a");
        due(x.meta('A', 4), 0, "what 4");
        due(x.meta('A', 5), NONE, "what 5");
        due(x.meta('A', -1), NONE, "what -1");
        for (int what : ODD) due(x.meta('A', what), NONE, "what " + what);
        due(x.meta('B', 5), NONE, "B, what 5");
    }

    static void promise14HowManyWords() {
        TwoLevels x = told("A=|aA;B=B;C=aaaa;D=a|b|c|d;E=DD|DA|DDDD;F=DD|D|");
        due(x.meta('A', 1), 3, "A");
        due(x.meta('B', 1), 0, "B");
        due(x.meta('C', 1), 0, "C");
        due(x.meta('E', 1), 20, "E: DD (16) and D with nothing (4)");
        due(x.meta('F', 1), 20, "F: 21");
        x.settle(1, 0);
        due(x.meta('A', 1), 1, "A, LONG 0");
        due(x.meta('D', 1), 0, "D, LONG 0");
        x.settle(1, 3);
        due(x.meta('A', 1), 4, "A, LONG 3");
        due(x.meta('C', 1), 0, "C, LONG 3");
    }

    static void promise14TheEmptyWord() {
        TwoLevels x = told("A=;B=a|b|c|;C=AAAAAA;D=aA;E=E|CB;F=F");
        int[] want = {1, 1, 1, 0, 1, 0};
        for (int n = 0; n < 6; n++) due(x.meta('A' + n, 2), want[n], "" + (char) ('A' + n));
        x.settle(1, 0);
        for (int n = 0; n < 6; n++) due(x.meta('A' + n, 2), want[n], (char) ('A' + n) + ", LONG 0");
    }

    static void promise14AnyWordHoweverLong() {
        TwoLevels x = told("A=aaaaaa;B=AAAAAA;C=BBBBBB;D=D|Da;E=CF;F=E");
        int[] want = {1, 1, 1, 0, 0, 0};
        for (int n = 0; n < 6; n++) due(x.meta('A' + n, 3), want[n], "" + (char) ('A' + n));
        due(x.meta('C', 1), 0, "C, of 216 letters, HAS none");
        due(told("A=B;B=C;C=D;D=E;E=F;F=").meta('A', 3), 1, "by five others");
        due(told("F=E;E=D;D=C;C=B;B=A;A=").meta('F', 3), 1, "by five others, told the other way");
    }

    static void promise14RulesInWhichItStands() {
        TwoLevels x = told("A=;A:;a:A;a:\"A;a:/b,\"bbbbbA;a:;a:;a:;a:;a:;bA:");
        due(x.meta('A', 4), 1 | 2 | 4 | 8 | 1 << 9, "A");
        x.drop(0);
        due(x.meta('A', 4), 1 | 2 | 4 | 1 << 8, "A behind drop(0)");
        x.swap(0, 5);
        due(x.meta('A', 4), 2 | 4 | 1 << 5 | 1 << 8, "A behind swap(0, 5)");
        due(told("A=;B=A").meta('A', 4), 0, "not in METANOTIONS");
    }

    static void promise14RulesInWhichItStandsAheadOfOthers() {
        TwoLevels x = told("A=;B=;a:A,b;a:\"A,b,c/d;Ab:b;a:A/B;a:b,B/b,b");
        due(x.meta('A', 4), 1 | 2 | 4 | 8, "A");
        due(x.meta('B', 4), 8 | 16, "B");
    }

    // ---- 15: word ----

    static void promise15TheFirstAndTheLastWord() {
        TwoLevels x = told("A=|aA");
        due(x.word('A', 0, NONE), 0, "letters of the first");
        due(x.word('A', 0, 0), -2, "a letter of the first");
        due(x.word('A', 2, NONE), 2, "letters of the last");
        due(x.word('A', 2, 1), 'a', "its last letter");
        due(x.word('A', 2, 2), -2, "one more letter");
        due(x.word('A', 3, NONE), -2, "one more");
        due(x.word('A', 3, 0), -2, "a letter of one more");
        due(x.word('A', HIGH, HIGH), -2, "the highest");
        due(x.word('A', 2, HIGH), -2, "the highest letter");
        TwoLevels y = told("A=a|b|c|d;B=|A|AA");
        due(y.word('B', 19, 1), 'c', "the twentieth");
        due(y.word('B', 20, NONE), -2, "a 21st");
    }

    static void promise15BelowNone() {
        TwoLevels x = told("A=|aA;B=B");
        due(x.word('A', -1, 0), NONE, "k below 0");
        due(x.word('A', -1, NONE), NONE, "k below 0, how many");
        due(x.word('A', 0, -2), NONE, "i below NONE");
        due(x.word('A', 9, -2), NONE, "i below NONE, no such word");
        due(x.word('A', LOW, 0), NONE, "the lowest k");
        due(x.word('A', 0, LOW), NONE, "the lowest i");
        due(x.word('B', 0, NONE), -2, "no words");
        due(x.word('B', -1, NONE), NONE, "no words, k below 0");
    }

    static void promise15WithoutThatMetanotion() {
        TwoLevels x = told("A=a;Z=z");
        for (int name = -1; name <= 256; name++) {
            due(x.word(name, 0, NONE), name == 'A' || name == 'Z' ? 1 : NONE, "letter " + name);
        }
        due(x.word('B', 99, 99), NONE, "B");
    }

    // ---- 16: is ----

    static void promise16NoLetterToTenLetters() {
        TwoLevels x = told("A=|aA;B=a|aaB");
        for (int size = 0; size <= 10; size++) {
            Calls.notion(x, many("a", size));
            due(x.is('A'), 1, size + " letters of A");
            due(x.is('B'), size % 2, size + " letters of B");
        }
        Calls.notion(x, "aaaaaaaaab");
        due(x.is('A'), 0, "another last letter");
        Calls.notion(x, "baaaaaaaaa");
        due(x.is('A'), 0, "another first letter");
    }

    static void promise16WithoutThatMetanotion() {
        TwoLevels x = asked("A=a;Z=a", "a", "");
        for (int name = -1; name <= 256; name++) {
            due(x.is(name), name == 'A' || name == 'Z' ? 1 : NONE, "letter " + name);
        }
        for (int name : ODD) due(x.is(name), NONE, "letter " + name);
    }

    static void promise16MetanotionsThatGoRoundInCircles() {
        TwoLevels x = asked("A=A|B;B=A|a|BA;C=CC|;D=D|DD", "aaaaaaaaaa", "");
        due(x.is('A'), 1, "A");
        due(x.is('B'), 1, "B");
        due(x.is('C'), 0, "C");
        due(x.is('D'), 0, "D");
        Calls.notion(x, "");
        due(x.is('A'), 0, "nothing of A");
        due(x.is('C'), 1, "nothing of C");
        due(x.is('D'), 0, "nothing of D");
    }

    static void promise16WordsThatEndInSeveralPlaces() {
        TwoLevels x = asked("A=a|aa;B=ab;C=AB", "aab", "");
        due(x.is('C'), 1, "a with ab behind it, though aa has none");
        Calls.notion(x, "aaab");
        due(x.is('C'), 1, "aa with ab behind it");
        Calls.notion(x, "ab");
        due(x.is('C'), 0, "nothing with ab behind it");
        Calls.notion(x, "aaaab");
        due(x.is('C'), 0, "aaa with ab behind it");
    }

    // ---- 17: span ----

    static void promise17AllLettersAndNone() {
        TwoLevels x = asked("A=|aA;B=a|aB", "aaaaaaaaaa", "");
        due(x.span('A', 0, 10), 1, "all");
        due(x.span('A', 9, 1), 1, "the last");
        due(x.span('A', 0, 0), 1, "none of A");
        due(x.span('B', 0, 0), 0, "none of B");
        due(x.span('A', 9, 0), 1, "none at the last");
        due(x.span('A', 10, 0), 1, "none behind the last");
        due(x.span('B', 10, 0), 0, "none behind the last, of B");
    }

    static void promise17WithoutTheseLetters() {
        TwoLevels x = asked("A=|aA", "aaaaaaaaaa", "");
        due(x.span('A', 0, 11), NONE, "one too many");
        due(x.span('A', 1, 10), NONE, "one too far");
        due(x.span('A', 10, 1), NONE, "one behind the last");
        due(x.span('A', 11, 0), NONE, "none, too far");
        due(x.span('A', -1, 1), NONE, "from below 0");
        due(x.span('A', -1, 0), NONE, "from below 0, none");
        due(x.span('A', 0, -1), NONE, "many below 0");
        due(x.span('A', 5, -1), NONE, "many below 0, from 5");
        due(x.span('A', 11, -1), NONE, "back from one too far");
    }

    static void promise17SumsThatWrapAround() {
        TwoLevels x = asked("A=|aA", "aaaa", "");
        due(x.span('A', HIGH, HIGH), NONE, "highest, highest");
        due(x.span('A', 1, HIGH), NONE, "1, highest");
        due(x.span('A', HIGH, 1), NONE, "highest, 1");
        due(x.span('A', LOW, LOW), NONE, "lowest, lowest");
        due(x.span('A', LOW, HIGH), NONE, "lowest, highest");
        due(x.span('A', HIGH, LOW), NONE, "highest, lowest");
        due(x.span('A', 4, LOW), NONE, "4, lowest");
    }

    static void promise17OfTheEmptyNotion() {
        TwoLevels x = told("A=|a;B=b");
        due(x.span('A', 0, 0), 1, "none of A");
        due(x.span('B', 0, 0), 0, "none of B");
        due(x.span('A', 0, 1), NONE, "one");
        due(x.span('A', 1, 0), NONE, "from 1");
    }

    static void promise17WithoutThatMetanotion() {
        TwoLevels x = asked("A=a;Z=a", "a", "");
        for (int name = -1; name <= 256; name++) {
            due(x.span(name, 0, 1), name == 'A' || name == 'Z' ? 1 : NONE, "letter " + name);
        }
    }

    // ---- 18: rule ----

    static void promise18TheLeastAndTheGreatestRule() {
        TwoLevels x = told("a:;ABCDEF:///;A=;B=;C=;D=;E=;F=");
        due(x.rule(0, 0), 1, "signs of one");
        due(x.rule(0, 1), 1, "alternatives of one");
        due(x.rule(0, 2), 0, "METANOTIONS of one");
        due(x.rule(1, 0), 6, "signs of the other");
        due(x.rule(1, 1), 4, "alternatives of the other");
        due(x.rule(1, 2), 63, "METANOTIONS of the other");
        due(told("ZAZA:;A=;Z=").rule(0, 2), 1 | 1 << 25, "A the lowest, Z the highest");
        due(told("a:A;A=").rule(0, 2), 0, "of its HEAD alone");
    }

    static void promise18WithoutThese() {
        TwoLevels x = told("a:;b:");
        due(x.rule(2, 0), NONE, "rule(2, 0)");
        due(x.rule(-1, 0), NONE, "rule(-1, 0)");
        due(x.rule(1, 3), NONE, "rule(1, 3)");
        due(x.rule(1, -1), NONE, "rule(1, -1)");
        for (int odd : ODD) due(x.rule(odd, 0), NONE, "rule(" + odd + ", 0)");
        for (int odd : ODD) due(x.rule(0, odd), NONE, "rule(0, " + odd + ")");
        TwoLevels y = told("a:;a:;a:;a:;a:;a:;a:;a:;a:;abc:");
        due(y.rule(9, 0), 3, "the tenth");
        due(y.rule(10, 0), NONE, "an eleventh");
    }

    // ---- 19: head ----

    static void promise19TheFirstAndTheLastSign() {
        TwoLevels x = told("a:;aBcZzA:;A=;B=;Z=");
        due(x.head(0, 0), 'a', "the only one");
        due(x.head(0, 1), -2, "one more");
        String want = "aBcZzA";
        for (int i = 0; i < 6; i++) due(x.head(1, i), want.charAt(i), "sign " + i);
        due(x.head(1, 6), -2, "a seventh");
        due(x.head(1, HIGH), -2, "the highest");
    }

    static void promise19WithoutThese() {
        TwoLevels x = told("a:;b:");
        due(x.head(1, -1), NONE, "i below 0");
        due(x.head(1, LOW), NONE, "the lowest i");
        due(x.head(2, 0), NONE, "head(2, 0)");
        due(x.head(2, 9), NONE, "head(2, 9)");
        due(x.head(-1, 0), NONE, "head(-1, 0)");
        for (int odd : ODD) due(x.head(odd, 0), NONE, "head(" + odd + ", 0)");
    }

    // ---- 20: choice ----

    static void promise20TheLeastAndTheGreatestAlternative() {
        TwoLevels x = told("aC:/C/A,\"B,b,\"c/\"A,\"A,\"C,\"Z;A=;B=;C=;Z=");
        int[][] want = {{0, 0, 0}, {1, 0, 0}, {4, 3, 2}, {4, 1 | 1 << 25, 4}};
        for (int c = 0; c < 4; c++) {
            for (int what = 0; what < 3; what++) due(x.choice(0, c, what), want[c][what], "choice(0, " + c + ", " + what + ")");
        }
        due(x.choice(0, 4, 0), NONE, "a fifth");
    }

    static void promise20WithoutThese() {
        TwoLevels x = told("a:b/c;b:");
        due(x.choice(0, 2, 0), NONE, "choice(0, 2, 0)");
        due(x.choice(1, 1, 0), NONE, "choice(1, 1, 0)");
        due(x.choice(0, -1, 0), NONE, "choice(0, -1, 0)");
        due(x.choice(2, 0, 0), NONE, "choice(2, 0, 0)");
        due(x.choice(-1, 0, 0), NONE, "choice(-1, 0, 0)");
        due(x.choice(0, 0, 3), NONE, "choice(0, 0, 3)");
        due(x.choice(0, 0, -1), NONE, "choice(0, 0, -1)");
        for (int odd : ODD) {
            due(x.choice(odd, 0, 0), NONE, "RULE " + odd);
            due(x.choice(0, odd, 0), NONE, "alternative " + odd);
            due(x.choice(0, 0, odd), NONE, "what " + odd);
        }
    }

    // ---- 21: heads ----

    static void promise21NoneOneAndMany() {
        TwoLevels x = asked("A=|aA;B=|aB;a:;aaaaaa:;AB:;AA:;ABABAB:", "aaaaaaaaaa", "");
        due(x.heads(0), 0, "a");
        due(x.heads(1), 0, "aaaaaa");
        due(x.heads(2), 11, "AB: none to ten letters for A");
        due(x.heads(3), 1, "AA: five each");
        due(x.heads(4), 0, "ABABAB: ten is not three times any");
        Calls.notion(x, "aaaaaaaaa");
        due(x.heads(4), 4, "ABABAB: three letters of both");
        due(x.heads(3), 0, "AA: nine is odd");
        Calls.notion(x, "");
        due(x.heads(2), 1, "nothing for both");
        due(x.heads(0), 0, "a is not nothing");
    }

    static void promise21WithoutThatRule() {
        TwoLevels x = asked("a:", "a", "");
        due(x.heads(0), 1, "heads(0)");
        due(x.heads(1), NONE, "heads(1)");
        due(x.heads(-1), NONE, "heads(-1)");
        for (int odd : ODD) due(x.heads(odd), NONE, "heads(" + odd + ")");
    }

    // ---- 22: assigned ----

    static void promise22TheFirstAndTheLastOne() {
        TwoLevels x = asked("A=|aA;B=|aB;AB:;b:", "aaaaaaaaaa", "");
        due(x.assigned(0, 0, 'A', NONE), 0, "A in the first");
        due(x.assigned(0, 0, 'A', 0), -2, "no letter of it");
        due(x.assigned(0, 0, 'B', NONE), 10, "B in the first");
        due(x.assigned(0, 0, 'B', 9), 'a', "its last letter");
        due(x.assigned(0, 0, 'B', 10), -2, "one more letter");
        due(x.assigned(0, 10, 'A', NONE), 10, "A in the last");
        due(x.assigned(0, 10, 'B', NONE), 0, "B in the last");
        due(x.assigned(0, 11, 'A', NONE), -2, "one more");
        due(x.assigned(0, 11, 'A', 0), -2, "a letter of one more");
        due(x.assigned(0, HIGH, 'A', NONE), -2, "the highest");
        due(x.assigned(0, 10, 'A', HIGH), -2, "the highest letter");
    }

    static void promise22NotSoManyIfThereIsNone() {
        TwoLevels x = asked("A=a;A:", "b", "");
        due(x.assigned(0, 0, 'A', NONE), -2, "the first");
        due(x.assigned(0, 0, 'A', 0), -2, "its letter");
        due(x.assigned(0, -1, 'A', 0), NONE, "k below 0");
        due(x.assigned(0, 0, 'A', -2), NONE, "i below NONE");
    }

    static void promise22WithoutThese() {
        TwoLevels x = asked("A=a;B=b;A:B;b:A", "a", "");
        due(x.assigned(0, 0, 'A', NONE), 1, "A");
        due(x.assigned(0, 0, 'B', NONE), NONE, "B is not in its HEAD");
        due(x.assigned(1, 0, 'A', NONE), NONE, "A is not in that HEAD");
        due(x.assigned(0, 0, 'C', NONE), NONE, "C is none");
        due(x.assigned(0, 0, 'a', NONE), NONE, "a is none");
        due(x.assigned(0, 9, 'B', 9), NONE, "B, whatever k and i");
        due(x.assigned(2, 0, 'A', NONE), NONE, "RULE 2");
        due(x.assigned(-1, 0, 'A', NONE), NONE, "RULE -1");
        due(x.assigned(0, -1, 'A', NONE), NONE, "k below 0");
        due(x.assigned(0, 0, 'A', -2), NONE, "i below NONE");
        for (int odd : ODD) {
            due(x.assigned(odd, 0, 'A', NONE), NONE, "RULE " + odd);
            due(x.assigned(0, 0, odd, NONE), NONE, "letter " + odd);
            due(x.assigned(0, odd, 'A', NONE), odd < 0 ? NONE : -2, "ASSIGNMENT " + odd);
            due(x.assigned(0, 0, 'A', odd), odd < 0 ? NONE : -2, "i " + odd);
        }
    }

    // ---- 23: blind ----

    static void promise23NoneAndAllOfTen() {
        TwoLevels x = asked("a:;a:;a:;a:;a:;a:;a:;a:;a:;a:", "a", "");
        due(x.blind(), 1023, "all");
        Calls.notion(x, "b");
        due(x.blind(), 0, "none");
        Calls.notion(x, "");
        due(x.blind(), 0, "none for nothing");
        due(asked("a:;a:;a:;a:;a:;a:;a:;a:;a:;b:", "b", "").blind(), 512, "the last");
    }

    static void promise23EachRuleByItself() {
        // What is left to be tried of AB must not help aD.
        TwoLevels x = asked("A=|aA;B=|aB;D=;AB:;aD:;AB:", "aa", "");
        due(x.blind(), 5, "AB, not aD");
        due(x.heads(1), 0, "aD");
        Calls.notion(x, "a");
        due(x.blind(), 7, "all");
    }

    static void promise23GoesWithTheRules() {
        TwoLevels x = asked("A=;b:;A:;bA:", "", "");
        due(x.blind(), 2, "nothing");
        Calls.notion(x, "b");
        due(x.blind(), 5, "b");
        x.drop(0);
        due(x.blind(), 2, "behind drop(0)");
        x.swap(0, 1);
        due(x.blind(), 1, "behind swap(0, 1)");
        x.undo();
        x.undo();
        due(x.blind(), 5, "undone");
    }

    // ---- 24: holds ----

    static void promise24NoWordsWhateverTheTextIs() {
        TwoLevels x = asked("a:;b:\"x;c:a,a,a,a;d:a,b", "a", "x");
        due(x.holds(), 1, "a");
        due(x.derives(), 0, "a derives no x");
        Calls.notion(x, "b");
        due(x.holds(), 0, "b");
        due(x.derives(), 1, "b derives x");
        Calls.notion(x, "c");
        due(x.holds(), 1, "c");
        Calls.notion(x, "d");
        due(x.holds(), 0, "d");
        Calls.notion(x, "e");
        due(x.holds(), 0, "e");
        Calls.notion(x, "");
        due(x.holds(), 0, "nothing");
    }

    static void promise24ByDepth() {
        TwoLevels x = asked("a:b;b:c;c:", "a", "");
        x.settle(0, 2);
        due(x.holds(), 0, "by 2");
        x.settle(0, 3);
        due(x.holds(), 1, "by 3");
        x.undo();
        due(x.holds(), 0, "undone");
    }

    static void promise24MoreThan500Steps() {
        TwoLevels x = asked("p:p,p/p,p/p,p/p,p", "p", "");
        x.settle(0, 3);
        due(x.steps(0), 1 + 4 + 16 + 64, "STEPS by 3");
        due(x.holds(), 0, "by 3");
        x.settle(0, 4);
        due(x.steps(0), 1 + 4 + 16 + 64 + 256, "STEPS by 4");
        due(x.holds(), 0, "by 4");
        x.settle(0, 5);
        due(x.holds(), -3, "by 5");
        x.settle(0, 12);
        due(x.holds(), -3, "by 12");
    }

    // ---- 25: derives ----

    static void promise25NoWordAndEightWords() {
        TwoLevels x = asked("N=i|iN;iN:\"x,N;i:\"x;s:", "s", "");
        due(x.derives(), 1, "no WORD");
        ask(x, "iiiiiiii", "x x x x x x x x");
        x.settle(0, 8);
        due(x.derives(), 1, "eight WORDS");
        due(x.node(7, 3), 7, "the eighth");
        Calls.notion(x, "iiiiiii");
        due(x.derives(), 0, "seven i");
        Calls.notion(x, "iiiiiiiii");
        due(x.derives(), 0, "nine i");
        x.settle(0, 7);
        Calls.notion(x, "iiiiiiii");
        due(x.derives(), 0, "by 7");
    }

    static void promise25MoreThan500Steps() {
        TwoLevels x = asked("p:p,p/p,p/p,p/p,p;q:p/\"x", "q", "x");
        x.settle(0, 12);
        due(x.derives(), -3, "by 12");
        x.settle(0, 1);
        due(x.derives(), 1, "by 1");
        due(x.steps(0), 2, "STEPS by 1");
        x.undo();
        due(x.derives(), -3, "undone");
        x.drop(0);
        due(x.derives(), 1, "without p");
    }

    // ---- 26: steps ----

    static void promise26OtherQuestions() {
        TwoLevels x = asked("a:", "a", "");
        due(x.steps(0), 1, "steps(0)");
        due(x.steps(3), 0, "steps(3)");
        due(x.steps(4), NONE, "steps(4)");
        due(x.steps(-1), NONE, "steps(-1)");
        for (int odd : ODD) due(x.steps(odd), NONE, "steps(" + odd + ")");
    }

    static void promise26MoreThan500() {
        TwoLevels x = asked("p:p,p/p,p/p,p/p,p", "p", "");
        x.settle(0, 5);
        for (int what = 0; what < 4; what++) due(x.steps(what), -3, "steps(" + what + ")");
        due(x.steps(4), NONE, "steps(4)");
        due(x.steps(-1), NONE, "steps(-1)");
    }

    static void promise26BlindOnesAreNotThoseByDepthNone() {
        TwoLevels x = asked("s:x,y/z;z:w,w", "s", "a");
        due(x.steps(0), 6, "s, x for none, x for one, z, w for none, w for one");
        due(x.steps(1), 4, "x, x, w, w");
        due(x.steps(2), 0, "ends of DEPTH");
        due(x.steps(3), 2, "the greatest depth");
        x.settle(0, 2);
        due(x.steps(0), 6, "STEPS by 2");
        due(x.steps(1), 2, "x, x by 2");
        due(x.steps(2), 2, "w, w by 2");
        due(x.steps(3), 2, "the greatest depth by 2");
        x.settle(0, 1);
        due(x.steps(0), 4, "STEPS by 1");
        due(x.steps(1), 0, "none by 1");
        due(x.steps(2), 3, "x, x, z by 1");
        due(x.steps(3), 1, "the greatest depth by 1");
    }

    static void promise26AreOfTheSearchForTheText() {
        TwoLevels x = asked("s:t,\"x/t,t;t:", "s", "x");
        due(x.steps(0), 2, "s, t");
        x.holds();
        x.least();
        due(x.steps(0), 2, "behind other searches");
        due(x.steps(3), 1, "the greatest depth");
    }

    // ---- 27: least ----

    static void promise27OneToTwelve() {
        // iN goes two down for each i; s is one of its own.
        TwoLevels x = asked("N=|iN;E=;iN:sN;sN:N;E:\"x", "", "x");
        for (int size = 0; size <= 5; size++) {
            Calls.notion(x, many("i", size));
            due(x.least(), 1 + 2 * size, size + " i");
            Calls.notion(x, "s" + many("i", size));
            due(x.least(), 2 + 2 * size, "s and " + size + " i");
        }
        Calls.notion(x, "iiiiii");
        due(x.least(), -2, "thirteen would do");
    }

    static void promise27ByNone() {
        TwoLevels x = asked("a:a;b:c", "a", "");
        due(x.least(), -2, "a goes down for ever");
        Calls.notion(x, "b");
        due(x.least(), -2, "c is BLIND");
        Calls.notion(x, "");
        due(x.least(), -2, "nothing is BLIND");
    }

    static void promise27DoesNotDependOnDepth() {
        TwoLevels x = asked("a:b;b:c;c:", "a", "");
        for (int depth = 1; depth <= 12; depth++) {
            x.settle(0, depth);
            due(x.least(), 3, "DEPTH " + depth);
            due(x.count(5), depth, "DEPTH stays");
        }
    }

    static void promise27MoreThan500StepsForOne() {
        TwoLevels x = asked("p:p,p/p,p/p,p/p,p", "p", "");
        due(x.least(), -3, "no DEPTH does, and 5 has too many STEPS");
        x = asked("p:p,p/p,p/p,p/p,p;a:b;b:c;c:d;d:/p", "a", "");
        due(x.least(), 4, "4 does ahead of one that has too many");
        x = asked("p:p,p/p,p/p,p/p,p;a:p/b;b:c;c:d;d:e;e:f;f:", "a", "");
        due(x.least(), -3, "6 would do, but has too many");
        x = asked("p:p,p/p,p/p,p/p,p;a:p/b;b:c;c:d;d:", "a", "");
        due(x.least(), 4, "4 does, by fewer");
    }

    // ---- 28: node ----

    static void promise28TheFirstAndTheLastNode() {
        TwoLevels x = asked(COPIES, "s", "a a b b");
        due(x.node(NONE, 0), 5, "NODES");
        int[] first = {0, 0, 0, 0, 4, NONE, 1, 0};
        int[] last = {4, 0, 0, 3, 1, 3, 2, 2};
        for (int what = 0; what < 8; what++) {
            due(x.node(0, what), first[what], "node(0, " + what + ")");
            due(x.node(4, what), last[what], "node(4, " + what + ")");
            due(x.node(5, what), NONE, "node(5, " + what + ")");
        }
    }

    static void promise28WithoutThese() {
        TwoLevels x = asked(COPIES, "s", "a a b b");
        due(x.node(0, 8), NONE, "node(0, 8)");
        due(x.node(0, -1), NONE, "node(0, -1)");
        for (int what = 1; what < 8; what++) due(x.node(NONE, what), NONE, "node(NONE, " + what + ")");
        due(x.node(NONE, -1), NONE, "node(NONE, -1)");
        due(x.node(-2, 0), NONE, "node(-2, 0)");
        for (int odd : ODD) {
            due(x.node(odd, 0), NONE, "node(" + odd + ", 0)");
            due(x.node(0, odd), NONE, "node(0, " + odd + ")");
            due(x.node(NONE, odd), NONE, "node(NONE, " + odd + ")");
        }
    }

    static void promise28WithoutADerivation() {
        TwoLevels x = asked(COPIES, "s", "a b b");
        due(x.node(NONE, 0), NONE, "NODES");
        for (int what = 0; what < 8; what++) due(x.node(0, what), NONE, "node(0, " + what + ")");
        Calls.text(x, "a b");
        due(x.node(NONE, 0), 3, "with one");
        x.settle(0, 1);
        due(x.node(NONE, 0), NONE, "by too little DEPTH");
        x.undo();
        due(x.node(NONE, 0), 3, "undone");
        due(new TwoLevels().node(NONE, 0), NONE, "a new object");
    }

    static void promise28NothingIsLeftOfOtherSearches() {
        TwoLevels x = asked(COPIES + ";t:\"a,\"a,\"b,\"b", "s", "a a b b");
        due(x.node(4, 0), 4, "the fifth NODE");
        Calls.notion(x, "t");
        due(x.node(NONE, 0), 1, "NODES of another notion");
        for (int k = 1; k <= 5; k++) due(x.node(k, 0), NONE, "node(" + k + ", 0)");
        due(x.spelled(1, 0), NONE, "spelled(1, 0)");
        due(x.free(1, 'N', NONE), NONE, "free(1, N, NONE)");
    }

    static void promise28NumbersOfTheLastOfEach() {
        TwoLevels x = asked("A=|aA;B=|aB;a:;a:;a:;a:;a:;a:;a:;a:;a:;AB:b/c/d/\"A", "aaaaaaaaaa", "aaaaaaaaaa");
        due(x.node(0, 0), 9, "RULE");
        due(x.node(0, 1), 3, "alternative");
        due(x.node(0, 2), 10, "ASSIGNMENT");
        due(x.node(0, 6), 10, "letters");
    }

    // ---- 29: spelled ----

    static void promise29TheFirstAndTheLastLetter() {
        TwoLevels x = asked("N=|iN;s:aN;ai:\"x;iN:", "s", "x");
        due(x.spelled(0, 0), 's', "the first");
        due(x.spelled(0, 1), NONE, "one more letter");
        due(x.spelled(1, 1), 'i', "the last");
        due(x.spelled(1, 2), NONE, "one more letter");
        due(x.spelled(1, -1), NONE, "i below 0");
        due(x.spelled(2, 0), NONE, "one more NODE");
        due(x.spelled(-1, 0), NONE, "NODE -1");
        ask(x, "iiiiiiiiii", "");
        due(x.spelled(0, 9), 'i', "the tenth");
        due(x.spelled(0, 10), NONE, "an eleventh");
        for (int odd : ODD) {
            due(x.spelled(odd, 0), NONE, "NODE " + odd);
            due(x.spelled(0, odd), NONE, "letter " + odd);
        }
    }

    static void promise29WithoutADerivation() {
        TwoLevels x = asked("s:\"x", "s", "");
        due(x.spelled(0, 0), NONE, "spelled(0, 0)");
        Calls.text(x, "x");
        due(x.spelled(0, 0), 's', "with one");
        due(new TwoLevels().spelled(0, 0), NONE, "a new object");
    }

    // ---- 30: free ----

    static void promise30NoLetterToThreeLetters() {
        TwoLevels x = asked("A=|aA;B=b;s:\"xA/\"A,\"B", "s", "x");
        due(x.free(0, 'A', NONE), 0, "nothing");
        due(x.free(0, 'A', 0), NONE, "no letter of it");
        x.settle(1, 3);
        Calls.text(x, "xaaa");
        due(x.free(0, 'A', NONE), 3, "three letters");
        due(x.free(0, 'A', 2), 'a', "the third");
        due(x.free(0, 'A', 3), NONE, "a fourth");
        due(x.free(0, 'A', -2), NONE, "i below NONE");
        due(x.free(0, 'B', NONE), NONE, "B is in another alternative");
        Calls.text(x, "aa b");
        due(x.free(0, 'A', NONE), 2, "A");
        due(x.free(0, 'B', 0), 'b', "B");
    }

    static void promise30WithoutThese() {
        TwoLevels x = asked("A=a;B=b;A:\"B", "a", "b");
        due(x.free(0, 'B', NONE), 1, "B");
        due(x.free(0, 'A', NONE), NONE, "A is in the HEAD");
        due(x.free(0, 'C', NONE), NONE, "C is none");
        due(x.free(0, 'b', NONE), NONE, "b is none");
        due(x.free(1, 'B', NONE), NONE, "NODE 1");
        due(x.free(-1, 'B', NONE), NONE, "NODE -1");
        for (int odd : ODD) {
            due(x.free(odd, 'B', NONE), NONE, "NODE " + odd);
            due(x.free(0, odd, NONE), NONE, "letter " + odd);
            due(x.free(0, 'B', odd), NONE, "i " + odd);
        }
        Calls.text(x, "a");
        due(x.free(0, 'B', NONE), NONE, "without a DERIVATION");
        due(new TwoLevels().free(0, 'A', NONE), NONE, "a new object");
    }

    // ---- 31: checked ----

    static void promise31AllAreAsTold() {
        due(asked("s:", "s", "").checked(), NONE, "one NODE");
        due(asked(COPIES, "s", "a a b b").checked(), NONE, "five NODES");
        TwoLevels x = asked("N=|iN;E=;iN:sN;sN:N;E:\"x", "siiiii", "x");
        x.settle(0, 12);
        due(x.checked(), NONE, "twelve NODES");
        due(asked("A=a|b|c;s:\"A,t;t:\"A,u;u:\"A", "s", "a b c").checked(), NONE, "each with another FREE word");
        due(asked("A=a;B=;s:\"AB,t;t:\"BA", "s", "a a").checked(), NONE, "FREE ones that HAVE one word");
    }

    static void promise31WithoutADerivation() {
        due(new TwoLevels().checked(), -2, "a new object");
        due(asked("s:\"x", "s", "").checked(), -2, "derives no such TEXT");
        due(asked("", "s", "").checked(), -2, "BLIND");
        TwoLevels x = asked("p:p,p/p,p/p,p/p,p", "p", "");
        due(x.checked(), -2, "more than 500 STEPS");
    }

    static void promise31GoesWithWhatThereIsNow() {
        TwoLevels x = asked(COPIES, "s", "a b");
        due(x.checked(), NONE, "at first");
        x.drop(4);
        due(x.checked(), -2, "behind drop(4)");
        x.undo();
        due(x.checked(), NONE, "undone");
        x.swap(0, 4);
        due(x.checked(), NONE, "behind swap(0, 4)");
        x.settle(0, 1);
        due(x.checked(), -2, "DEPTH 1");
    }

    // ---- 32: count ----

    static void promise32TheGreatestCounts() {
        String rules = many("a:///;", 10);
        TwoLevels x = asked(rules + "A=A;B=B;C=;D=;E=;Z=Z", "abcdefghij", "a b c d e f g h");
        x.settle(0, 12);
        x.settle(1, 3);
        for (int k = 0; k < 9; k++) x.swap(0, 1);
        x.keep(0);
        x.keep(1);
        for (int k = 0; k < 25; k++) feedZeros(x);
        int[] want = {6, 10, 40, 8, 10, 12, 3, 10, 500, 3, 1 | 2 | 1 << 25};
        for (int what = 0; what < want.length; what++) due(x.count(what), want[what], "count(" + what + ")");
    }

    static void promise32TheLeastCounts() {
        TwoLevels x = new TwoLevels();
        x.settle(0, 1);
        x.settle(1, 0);
        int[] want = {0, 0, 0, 0, 0, 1, 0, 2, 0, 0, 0};
        for (int what = 0; what < want.length; what++) due(x.count(what), want[what], "count(" + what + ")");
    }

    static void promise32ForOthers() {
        TwoLevels x = busy();
        due(x.count(11), NONE, "count(11)");
        due(x.count(-1), NONE, "count(-1)");
        for (int odd : ODD) due(x.count(odd), NONE, "count(" + odd + ")");
    }
}
