/** Each promise of the document by itself: ordinary inputs, the edges that it names, wrong inputs. */
public final class PromiseTests extends Checks {
    private PromiseTests() {
    }

    public static void main(String[] args) {
        newObject();
        feeding();
        ending();
        tellingGrammars();
        faultsOfKindOne();
        faultsOfCounts();
        faultsOfNames();
        notions();
        texts();
        settings();
        dropping();
        swapping();
        undoing();
        keeping();
        goingBack();
        letters();
        metas();
        words();
        membership();
        spans();
        rules();
        headSigns();
        choices();
        headCounts();
        assignments();
        blindness();
        holding();
        deriving();
        orderOfTrying();
        stepCounts();
        leastDepth();
        nodes();
        spelledLetters();
        freeWords();
        checking();
        counting();
        finish();
    }

    // ---- promises 1 to 6 ----

    private static void newObject() {
        about("promise 1");
        TwoLevels x = new TwoLevels();
        int[] counts = {0, 0, 0, 0, 0, 6, 2, 0, 0, 0, 0};
        for (int what = 0; what < counts.length; what++) due(x.count(what), counts[what], "count(" + what + ")");
        due(x.blind(), 0, "blind");
        due(x.derives(), 0, "derives");
        due(x.back(0), -2, "back(0)");
        due(x.back(1), -2, "back(1)");
        due(x.undo(), NONE, "undo");
        due(TwoLevels.NONE, -1, "NONE");
    }

    private static void feeding() {
        about("promise 2");
        TwoLevels x = new TwoLevels();
        for (int k = 1; k <= 25; k++) due(x.feed(0, 0, 0, 0, 0), 20 * k, "feed " + k);
        due(x.feed(0, 0, 0, 0, 0), NONE, "feed 26");
        due(x.count(8), 500, "bytes");
        x.end(481);
        due(x.feed(0, 0, 0, 0, 0), NONE, "feed to 501");
        due(x.count(8), 481, "bytes");
        x.end(480);
        due(x.feed(0, 0, 0, 0, 0), 500, "feed to 500");
        x.end(0);
        x.feed(0x61626364, 0x65666768, 0x696A0000, 0, 0);
        x.end(10);
        due(x.notion(), 10, "notion of bytes");
        for (int i = 0; i < 10; i++) due(x.letter(NONE, i), 'a' + i, "byte " + i);
        x.feed(-1, 0, 0, 0, 0);
        x.end(1);
        due(x.notion(), -11 + 8, "a byte above 127");
        x.feed(0, 0, 0, 0, 0x6162637A);
        due(x.tell(), -3, "a byte 0");
        x.feed(0x20202020, 0x20202020, 0x20202020, 0x20202020, 0x2062637A);
        due(x.text(), 1, "the last number");
        due(x.letter(0, 2), 'z', "the last byte");
    }

    private static void ending() {
        about("promise 3");
        TwoLevels x = new TwoLevels();
        due(x.end(0), 0, "end(0) of an empty TAPE");
        due(x.end(1), NONE, "end(1) of an empty TAPE");
        x.feed(0x61626364, 0, 0, 0, 0);
        due(x.end(21), NONE, "end(21)");
        due(x.end(-1), NONE, "end(-1)");
        due(x.end(LOW), NONE, "end of the lowest");
        due(x.end(HIGH), NONE, "end of the highest");
        due(x.count(8), 20, "bytes");
        due(x.end(20), 20, "end(20)");
        due(x.end(3), 3, "end(3)");
        due(x.end(4), NONE, "end(4): bytes do not come back");
        due(x.notion(), 3, "notion");
        due(x.letter(NONE, 2), 'c', "the last letter");
    }

    private static void tellingGrammars() {
        about("promise 4");
        fine("", 0, 0);
        fine("   ", 0, 0);
        fine("A=", 0, 1);
        fine("A=|||", 0, 1);
        fine("a:", 1, 0);
        fine("a:///", 1, 0);
        fine("A:;A=a", 1, 1);
        fine(" A B : \" A , B C / \" a b ; C = A | ; A = a ; B = A A A A A A ", 1, 3);
        fine("abcdef:abcdef,\"abcdef,a,b", 1, 0);
        fine("A=;B=;C=;D=;E=;F=", 0, 6);
        fine("a:;a:;a:;a:;a:;a:;a:;a:;a:;a:", 10, 0);
        fine("A=a;B=b;C=c;D=d;A:BC,CB/CD,DC", 1, 4);
        TwoLevels x = told(COPIES);
        Calls.notion(x, "s");
        Calls.text(x, "a b");
        x.settle(0, 9);
        x.settle(1, 3);
        x.keep(1);
        due(Calls.tell(x, "a:;b"), -2 - (8 * 4 + 1), "a text that is none");
        due(x.count(1), 5, "RULES stay");
        due(x.count(3), 2, "THE TEXT stays");
        due(x.count(4), 1, "THE NOTION stays");
        due(x.count(7), 2, "ACTS stay");
        due(x.count(8), 0, "the TAPE is empty");
        due(Calls.tell(x, "a:;b:"), 2, "another GRAMMAR");
        due(x.count(0), 0, "METANOTIONS");
        due(x.count(3), 0, "THE TEXT");
        due(x.count(4), 0, "THE NOTION");
        due(x.count(5), 9, "DEPTH stays");
        due(x.count(6), 3, "LONG stays");
        due(x.count(7), 0, "ACTS");
        due(x.count(9), 2, "SHELVES stay");
        due(x.undo(), NONE, "undo");
        due(x.tell(), 0, "the empty TAPE");
        due(x.count(1), 0, "RULES");
        TwoLevels y = asked("A=;A:", "", "");
        due(y.derives() + y.holds() + y.least(), 3, "searches of one GRAMMAR");
        Calls.tell(y, "a:");
        due(y.derives(), 0, "derives by another one");
        due(y.holds(), 0, "holds by another one");
        due(y.least(), -2, "least by another one");
    }

    private static void faultsOfKindOne() {
        about("promise 4");
        fault(";", 0, 1);
        fault("  ;", 2, 1);
        fault("=a", 0, 1);
        fault(":a", 0, 1);
        fault("\"a:", 0, 1);
        fault("1", 0, 1);
        fault("a", 1, 1);
        fault("a  ", 3, 1);
        fault("A", 1, 1);
        fault("a=b", 1, 1);
        fault("A B =b", 4, 1);
        fault("Aa=b", 2, 1);
        fault("a:;", 3, 1);
        fault("a:; ", 4, 1);
        fault("a:;;a:", 3, 1);
        fault("A=a,", 3, 1);
        fault("A=a/b", 3, 1);
        fault("A=\"a", 2, 1);
        fault("A=a:b", 3, 1);
        fault("A==", 2, 1);
        fault("a:|", 2, 1);
        fault("a:b|c", 3, 1);
        fault("a:b:c", 3, 1);
        fault("a:b=c", 3, 1);
        fault("a:,b", 2, 1);
        fault("a:b,", 4, 1);
        fault("a:b,,c", 4, 1);
        fault("a:b,/c", 4, 1);
        fault("a:b,;", 4, 1);
        fault("a:\"", 3, 1);
        fault("a:\" ,", 4, 1);
        fault("a:\"\"b", 3, 1);
        fault("a:b\"c", 3, 1);
        fault("a:b\tc", 3, 1);
        fault("a:b" + (char) 225, 3, 1);
        fault("a,b:", 1, 1);
        fault("a:b/,", 4, 1);
        fault("a|b", 1, 1);
    }

    private static void faultsOfCounts() {
        about("promise 4");
        fault("abcdefg:", 6, 2);
        fault("ABCDEFG=", 6, 2);
        fault("A=abcdefg", 8, 2);
        fault("A=abc def g", 10, 2);
        fault("A=|abcdefA", 9, 2);
        fault("a:bcdefgh", 8, 2);
        fault("a:\"bcdefgh", 9, 2);
        fault("a:b,\"abcABCd", 10, 3);
        fault("A=|||;B=||||", 11, 3);
        fault("a:////", 5, 3);
        fault("a:b/c/d/e/f", 9, 3);
        fault("a:b,c,d,e,f", 9, 3);
        fault("a:b/c,d,e,f,", 11, 3);
        fault("A=;B=;C=;D=;E=;F=; G =", 19, 3);
        fault("A=;B=;C=;D=;E=;F=;G", 19, 1);
        fault("A=;B=;C=;D=;E=;F=;Gg=", 20, 1);
        fine("A=;B=;C=;D=;E=;F=;A:", 1, 6);
        fault("a:;a:;a:;a:;a:;a:;a:;a:;a:;a:; ab :", 31, 3);
        fault("a:;a:;a:;a:;a:;a:;a:;a:;a:;a:;abcdefg:", 36, 2);
        fault("a:;a:;a:;a:;a:;a:;a:;a:;a:;a:;ab", 32, 1);
        fine("a:;a:;a:;a:;a:;a:;a:;a:;a:;a:;A=", 10, 1);
        fault("a:AB,C;A=;B=;C=", 5, 3);
        fault("a:ABCD", 4, 3);
        fault("a:A,B,\"ABa,C;A=;B=;C=", 11, 3);
        fine("A:ABC/aD,B/B,C;A=;B=;C=;D=", 1, 4);
        fine("a:AB,BA,\"ABAB;A=;B=", 1, 2);
        fault("a:aaaaABC", 8, 2);
        fault("C:AB,CD;A=;B=;C=;D=", 6, 3);
    }

    private static void faultsOfNames() {
        about("promise 4");
        fault("A=a;A=b", 4, 4);
        fault("A=a; A =b", 5, 4);
        fault("A=a;A", 5, 1);
        fault("A=;B=;C=;D=;E=;F=;C=", 18, 4);
        fault("A=B", 2, 5);
        fault("a:B;A=C", 2, 5);
        fault("aB:", 1, 5);
        fault("a:\"B", 3, 5);
        fault("A=;a:A,B", 7, 5);
        fault("A=B;;", 4, 1);
        fault("a:Z;A=a;A=a", 8, 4);
        fine("a:B;B=C;C=B", 1, 2);
        fault("a:Z", 2, 5);
        fault("A:", 0, 5);
        fault("ABCDEF:;GHIJKL:;M=a|b|c|d;N=M", 0, 5);
        fault("GHIJKL:;A=a;B=A;C=;D=;E=;F=|A", 0, 5);
        fault("ABCDEF:;GHIJKL:;MNOPQR:;STUVWX:;YZ:", 0, 5);
        fine("Z=a;a:Z", 1, 1);
        due(told("Z=a|b;a:Z").meta('Z', 0), 2, "alternatives of Z");
    }

    private static void notions() {
        about("promise 5");
        TwoLevels x = told(COPIES);
        due(Calls.notion(x, "abcdefghij"), 10, "ten letters");
        due(x.letter(NONE, 9), 'j', "the tenth");
        due(Calls.notion(x, "abcdefghijk"), -2 - 82, "eleven letters");
        due(Calls.notion(x, "abcdefghij1"), -2 - 81, "an eleventh byte that is none");
        due(Calls.notion(x, "a b"), -2 - 9, "a blank");
        due(Calls.notion(x, " "), -2 - 1, "a blank alone");
        due(Calls.notion(x, "aB"), -2 - 9, "a capital");
        due(Calls.notion(x, "a{"), -2 - 9, "the byte behind z");
        due(Calls.notion(x, "a`"), -2 - 9, "the byte ahead of a");
        due(x.count(4), 10, "it stays");
        due(x.count(8), 0, "the TAPE");
        due(Calls.notion(x, "az"), 2, "two letters");
        due(x.letter(NONE, 1), 'z', "z");
        due(x.notion(), 0, "the empty TAPE");
        due(x.count(4), 0, "letters");
    }

    private static void texts() {
        about("promise 6");
        TwoLevels x = told(COPIES);
        due(Calls.text(x, "a b c d e f g h"), 8, "eight WORDS");
        due(Calls.text(x, "a b c d e f g h ij"), -2 - (8 * 16 + 3), "nine WORDS");
        due(Calls.text(x, "a b c d e f g h 1"), -2 - (8 * 16 + 1), "a byte that is none in the place of a ninth");
        due(x.count(3), 8, "it stays");
        due(Calls.text(x, "a b c d e f g h   "), 8, "blanks behind");
        due(Calls.text(x, "   abcdefghij  k"), 2, "ten letters");
        due(x.letter(0, 9), 'j', "the tenth");
        due(x.letter(1, 0), 'k', "the next WORD");
        due(Calls.text(x, "k abcdefghijk"), -2 - (8 * 12 + 2), "eleven letters");
        due(Calls.text(x, "k abcdefghijK"), -2 - (8 * 12 + 1), "an eleventh that is none");
        due(Calls.text(x, "k,a"), -2 - 9, "a comma");
        due(x.count(3), 2, "it stays");
        due(x.count(8), 0, "the TAPE");
        due(Calls.text(x, "    "), 0, "blanks alone");
        due(x.count(3), 0, "no WORDS");
        Calls.text(x, "a");
        due(x.text(), 0, "the empty TAPE");
        due(x.letter(0, 0), NONE, "no WORD");
    }

    // ---- promises 7 to 12 ----

    private static void settings() {
        about("promise 7");
        TwoLevels x = new TwoLevels();
        due(x.settle(0, 12), 6, "DEPTH 12");
        due(x.settle(0, 12), -2, "DEPTH 12 again");
        due(x.settle(0, 1), 12, "DEPTH 1");
        due(x.settle(0, 0), NONE, "DEPTH 0");
        due(x.settle(0, 13), NONE, "DEPTH 13");
        due(x.settle(0, LOW), NONE, "DEPTH lowest");
        due(x.count(5), 1, "DEPTH");
        due(x.settle(1, 0), 2, "LONG 0");
        due(x.settle(1, 3), 0, "LONG 3");
        due(x.settle(1, 3), -2, "LONG 3 again");
        due(x.settle(1, 4), NONE, "LONG 4");
        due(x.settle(1, -1), NONE, "LONG -1");
        due(x.count(6), 3, "LONG");
        due(x.settle(2, 1), NONE, "settle(2, 1)");
        due(x.settle(-1, 1), NONE, "settle(-1, 1)");
        due(x.count(7), 4, "ACTS");
    }

    private static void dropping() {
        about("promise 8");
        TwoLevels x = told("a:;b:x;c:x,y");
        due(x.drop(3), NONE, "drop(3)");
        due(x.drop(-1), NONE, "drop(-1)");
        due(x.count(7), 0, "ACTS");
        due(x.drop(1), 2, "drop(1)");
        due(x.head(0, 0), 'a', "RULE 0");
        due(x.head(1, 0), 'c', "RULE 1");
        due(x.choice(1, 0, 0), 2, "its MEMBERS");
        due(x.head(2, 0), NONE, "RULE 2");
        due(x.drop(2), NONE, "drop(2)");
        due(x.drop(0), 1, "drop(0)");
        due(x.drop(0), 0, "drop(0)");
        due(x.drop(0), NONE, "drop(0) of none");
        due(x.count(7), 3, "ACTS");
        TwoLevels y = asked("s:t;t:\"a", "s", "a");
        due(y.derives(), 1, "derives");
        y.drop(1);
        due(y.derives(), 0, "derives without RULE 1");
    }

    private static void swapping() {
        about("promise 9");
        TwoLevels x = told("a:;b:x;c:x,y");
        due(x.swap(0, 2), 1, "swap(0, 2)");
        due(x.head(0, 0), 'c', "RULE 0");
        due(x.head(1, 0), 'b', "RULE 1");
        due(x.head(2, 0), 'a', "RULE 2");
        due(x.choice(0, 0, 0), 2, "its MEMBERS");
        due(x.swap(1, 1), -2, "swap(1, 1)");
        due(x.swap(3, 3), NONE, "swap(3, 3)");
        due(x.swap(0, 3), NONE, "swap(0, 3)");
        due(x.swap(-1, 0), NONE, "swap(-1, 0)");
        due(x.swap(0, HIGH), NONE, "swap(0, highest)");
        due(x.count(7), 1, "ACTS");
        due(x.swap(2, 0), 1, "swap(2, 0)");
        due(x.head(0, 0), 'a', "RULE 0");
    }

    private static void undoing() {
        about("promise 10");
        TwoLevels x = told("a:;b:x;c:x,y");
        due(x.undo(), NONE, "undo of nothing");
        x.settle(0, 3);
        x.drop(0);
        x.swap(0, 1);
        Calls.notion(x, "zz");
        Calls.text(x, "q r");
        due(x.head(0, 0), 'c', "RULE 0");
        due(x.undo(), 2, "undo of swap");
        due(x.head(0, 0), 'b', "RULE 0");
        due(x.undo(), 1, "undo of drop");
        due(x.head(0, 0), 'a', "RULE 0");
        due(x.count(1), 3, "RULES");
        due(x.undo(), 0, "undo of settle");
        due(x.count(5), 6, "DEPTH");
        due(x.undo(), NONE, "undo of nothing");
        due(x.count(4), 2, "THE NOTION stays");
        due(x.count(3), 2, "THE TEXT stays");
        for (int k = 0; k < 13; k++) {
            x.settle(1, k % 2);
            due(x.count(7), Math.min(10, k + 1), "ACTS behind " + (k + 1));
        }
        for (int k = 9; k >= 0; k--) {
            due(x.undo(), k, "undo");
            due(x.count(6), k % 2, "LONG");
        }
        due(x.undo(), NONE, "an eleventh undo");
        due(x.settle(1, 0), -2, "LONG is what the third ACT told");
        x.settle(0, 6);
        x.swap(1, 1);
        x.drop(9);
        due(x.count(7), 0, "what nothing came of is no ACT");
    }

    private static void keeping() {
        about("promise 11");
        TwoLevels x = told("a:;b:x;c:x,y");
        due(x.keep(-1), NONE, "keep(-1)");
        due(x.keep(2), NONE, "keep(2)");
        due(x.count(9), 0, "SHELVES");
        due(x.keep(1), 3, "keep(1)");
        due(x.count(9), 2, "SHELVES");
        x.drop(0);
        due(x.keep(0), 2, "keep(0)");
        due(x.count(9), 3, "SHELVES");
        due(x.count(7), 1, "keep is no ACT, and ACTS stay");
        x.drop(0);
        due(x.keep(1), 1, "keep(1) again");
        due(x.back(1), 1, "back(1): the last one KEPT");
        due(x.back(0), 2, "back(0)");
    }

    private static void goingBack() {
        about("promise 12");
        TwoLevels x = asked("A=a;a:;b:x;c:x,A", "ab", "c d e");
        due(x.back(0), -2, "back(0) of nothing");
        due(x.back(-1), NONE, "back(-1)");
        due(x.back(2), NONE, "back(2)");
        x.settle(0, 4);
        x.settle(1, 1);
        x.keep(0);
        Calls.put(x, "q");
        x.drop(0);
        x.settle(0, 5);
        due(x.back(1), -2, "back(1) of nothing");
        due(x.count(7), 4, "ACTS stay then");
        due(x.back(0), 3, "back(0)");
        due(x.count(7), 0, "ACTS");
        due(x.undo(), NONE, "undo");
        due(x.count(5), 4, "DEPTH");
        due(x.count(6), 1, "LONG");
        due(x.count(8), 1, "the TAPE stays");
        due(x.count(9), 1, "it stays KEPT");
        x.end(0);
        Calls.tell(x, "q:");
        due(x.back(0), 3, "back(0) again");
        due(x.count(0), 1, "METANOTIONS");
        due(x.count(3), 3, "WORDS");
        due(x.letter(2, 0), 'e', "of THE TEXT");
        due(x.count(4), 2, "THE NOTION");
        due(x.letter(NONE, 1), 'b', "its letter");
        TwoLevels y = asked("a:/\"x;b:a;c:b", "c", "x");
        y.keep(0);
        due(y.derives() + y.holds() + y.least(), 5, "searches");
        Calls.notion(y, "z");
        due(y.derives() + y.holds() + y.least(), -2, "searches for another notion");
        y.back(0);
        due(y.derives(), 1, "derives as KEPT");
        due(y.holds(), 1, "holds as KEPT");
        due(y.least(), 3, "least as KEPT");
    }

    // ---- promises 13 to 20 ----

    private static void letters() {
        about("promise 13");
        TwoLevels x = asked("", "xyz", "ab c");
        due(x.letter(NONE, 0), 'x', "letter(NONE, 0)");
        due(x.letter(NONE, 2), 'z', "letter(NONE, 2)");
        due(x.letter(NONE, 3), -2, "letter(NONE, 3)");
        due(x.letter(NONE, -1), NONE, "letter(NONE, -1)");
        due(x.letter(0, 1), 'b', "letter(0, 1)");
        due(x.letter(0, 2), -2, "letter(0, 2)");
        due(x.letter(1, 0), 'c', "letter(1, 0)");
        due(x.letter(1, HIGH), -2, "letter(1, highest)");
        due(x.letter(1, LOW), NONE, "letter(1, lowest)");
        due(x.letter(2, 0), NONE, "letter(2, 0)");
        due(x.letter(-2, 0), NONE, "letter(-2, 0)");
        due(x.letter(HIGH, 0), NONE, "letter(highest, 0)");
    }

    private static void metas() {
        about("promise 14");
        TwoLevels x = told("A=a|bA|c;B=|A;C=aC|CA;D=abcd;a:A;b:\"xB;A:;c:c");
        due(x.meta('A', 0), 3, "alternatives of A");
        due(x.meta('B', 0), 2, "alternatives of B");
        due(x.meta('A', 1), 4, "a, c, ba, bc");
        due(x.meta('C', 1), 0, "words of C");
        due(x.meta('D', 1), 0, "words of D");
        due(x.meta('A', 2), 0, "A and the empty word");
        due(x.meta('B', 2), 1, "B and the empty word");
        due(x.meta('A', 3), 1, "A derives");
        due(x.meta('C', 3), 0, "C derives nothing");
        due(x.meta('D', 3), 1, "D derives a long word");
        due(x.meta('A', 4), 5, "RULES with A");
        due(x.meta('B', 4), 2, "RULES with B");
        due(x.meta('C', 4), 0, "RULES with C");
        due(x.meta('A', 5), NONE, "meta(A, 5)");
        due(x.meta('A', -1), NONE, "meta(A, -1)");
        due(x.meta('E', 0), NONE, "meta(E, 0)");
        due(x.meta('a', 0), NONE, "meta(a, 0)");
        due(x.meta('@', 0), NONE, "meta(@, 0)");
        due(x.meta('[', 0), NONE, "meta([, 0)");
        due(x.meta(LOW, 0), NONE, "meta(lowest, 0)");
        x.drop(0);
        due(x.meta('A', 4), 2, "RULES with A");
        x.swap(0, 2);
        due(x.meta('B', 4), 4, "RULES with B");
        x.settle(1, 0);
        due(x.meta('B', 1), 1, "words of B of no letter");
        due(x.meta('A', 1), 0, "words of A of no letter");
        due(x.meta('A', 3), 1, "A derives, whatever LONG is");
        TwoLevels y = told("A=BB|x;B=C;C=D|A;D=|E;E=Ea");
        due(y.meta('A', 2), 1, "A and the empty word, by others");
        due(y.meta('E', 2), 0, "E and the empty word");
        due(y.meta('E', 3), 0, "E derives nothing");
        due(y.meta('C', 3), 1, "C derives");
    }

    private static void words() {
        about("promise 15");
        TwoLevels x = told("A=b|a|ab|AA;B=|A;C=;D=xyzw|zz|z;E=EE");
        dueWords(x, 'A', "a", "b", "aa", "ab", "ba", "bb");
        dueWords(x, 'B', "", "a", "b", "aa", "ab", "ba", "bb");
        dueWords(x, 'C', "");
        dueWords(x, 'D', "z", "zz");
        dueWords(x, 'E');
        x.settle(1, 3);
        dueWords(x, 'A', "a", "b", "aa", "ab", "ba", "bb", "aaa", "aab", "aba", "abb", "baa", "bab", "bba", "bbb");
        x.settle(1, 0);
        dueWords(x, 'B', "");
        dueWords(x, 'A');
        x.settle(1, 2);
        due(x.word('A', 2, NONE), 2, "how many letters");
        due(x.word('A', 3, 1), 'b', "a letter");
        due(x.word('A', 3, 2), -2, "a third letter");
        due(x.word('A', HIGH, 0), -2, "a word that is not there");
        due(x.word('A', -1, 0), NONE, "word(A, -1, 0)");
        due(x.word('A', 0, -2), NONE, "word(A, 0, -2)");
        due(x.word('A', 99, -2), NONE, "word(A, 99, -2)");
        due(x.word('F', 0, 0), NONE, "word(F, 0, 0)");
        due(x.word('a', 0, 0), NONE, "word(a, 0, 0)");
        TwoLevels y = told("A=BC;B=z|y|x|w;C=D|E;D=a|b|c|d;E=e|f|g|h;F=BB|AB|");
        String[] first = new String[20];
        for (int k = 0; k < 20; k++) first[k] = "wxyz".substring(k / 8).substring(0, 1) + (char) ('a' + k % 8);
        dueWords(y, 'A', first);
        dueWords(y, 'C', "a", "b", "c", "d", "e", "f", "g", "h");
        dueWords(y, 'F', "", "ww", "wx", "wy", "wz", "xw", "xx", "xy", "xz", "yw", "yx", "yy", "yz", "zw", "zx", "zy", "zz");
        y.settle(1, 3);
        dueWords(y, 'F', "", "ww", "wx", "wy", "wz", "xw", "xx", "xy", "xz", "yw", "yx", "yy", "yz", "zw", "zx", "zy", "zz", "waw", "wax", "way");
    }

    private static void membership() {
        about("promise 16");
        TwoLevels x = asked("A=a|aAb;B=|bB;C=BAB;D=DD|a|;E=aE", "aaaaabbbb", "");
        due(x.is('A'), 1, "aaaaabbbb of A");
        due(x.is('B'), 0, "of B");
        due(x.is('C'), 1, "of C");
        due(x.is('D'), 0, "of D");
        due(x.is('E'), 0, "of E");
        due(x.is('F'), NONE, "of F");
        due(x.is('a'), NONE, "of a");
        due(x.is(HIGH), NONE, "of the highest");
        Calls.notion(x, "");
        due(x.is('A'), 0, "nothing of A");
        due(x.is('B'), 1, "nothing of B");
        due(x.is('D'), 1, "nothing of D");
        Calls.notion(x, "aaaaaaaaaa");
        due(x.is('D'), 1, "ten a of D");
        x.settle(1, 0);
        due(x.is('D'), 1, "whatever LONG is");
        Calls.notion(x, "bbab");
        due(x.is('C'), 1, "bbab of C");
        Calls.notion(x, "bbabab");
        due(x.is('C'), 0, "bbabab of C");
    }

    private static void spans() {
        about("promise 17");
        TwoLevels x = asked("A=a|aAb;B=|bB", "baab", "");
        due(x.span('A', 1, 3), 1, "aab of A");
        due(x.span('A', 1, 2), 0, "aa of A");
        due(x.span('A', 2, 1), 1, "a of A");
        due(x.span('A', 0, 1), 0, "b of A");
        due(x.span('B', 0, 1), 1, "b of B");
        due(x.span('B', 3, 1), 1, "the last b of B");
        due(x.span('B', 2, 0), 1, "nothing of B");
        due(x.span('B', 4, 0), 1, "nothing at the end, of B");
        due(x.span('A', 4, 0), 0, "nothing at the end, of A");
        due(x.span('B', 4, 1), NONE, "span(B, 4, 1)");
        due(x.span('B', 5, 0), NONE, "span(B, 5, 0)");
        due(x.span('B', -1, 1), NONE, "span(B, -1, 1)");
        due(x.span('B', 0, -1), NONE, "span(B, 0, -1)");
        due(x.span('B', 0, 5), NONE, "span(B, 0, 5)");
        due(x.span('B', HIGH, HIGH), NONE, "span(B, highest, highest)");
        due(x.span('B', 1, HIGH), NONE, "span(B, 1, highest)");
        due(x.span('C', 0, 0), NONE, "span(C, 0, 0)");
    }

    private static void rules() {
        about("promise 18");
        TwoLevels x = told("A=a;C=c;CaAbC:/x/y;a:;A:A");
        due(x.rule(0, 0), 5, "signs");
        due(x.rule(0, 1), 3, "alternatives");
        due(x.rule(0, 2), 5, "METANOTIONS");
        due(x.rule(1, 0), 1, "signs");
        due(x.rule(1, 1), 1, "alternatives");
        due(x.rule(1, 2), 0, "METANOTIONS");
        due(x.rule(2, 2), 1, "METANOTIONS");
        due(x.rule(0, 3), NONE, "rule(0, 3)");
        due(x.rule(0, -1), NONE, "rule(0, -1)");
        due(x.rule(3, 0), NONE, "rule(3, 0)");
        due(x.rule(-1, 0), NONE, "rule(-1, 0)");
        TwoLevels y = told("Z=z;aZ:");
        due(y.rule(0, 2), 1 << 25, "the bit of Z");
    }

    private static void headSigns() {
        about("promise 19");
        TwoLevels x = told("a:;CzAb C:;A=a;C=c");
        String head = "CzAbC";
        for (int i = 0; i < 5; i++) due(x.head(1, i), head.charAt(i), "sign " + i);
        due(x.head(1, 5), -2, "head(1, 5)");
        due(x.head(1, -1), NONE, "head(1, -1)");
        due(x.head(1, HIGH), -2, "head(1, highest)");
        due(x.head(2, 0), NONE, "head(2, 0)");
        due(x.head(-1, 0), NONE, "head(-1, 0)");
    }

    private static void choices() {
        about("promise 20");
        TwoLevels x = told("A=a;B=b;D=d;xA:/A,\"B,aDB,\"a/\"A,\"b,\"c,\"d");
        due(x.choice(0, 0, 0), 0, "MEMBERS of nothing");
        due(x.choice(0, 0, 1), 0, "FREE ones of nothing");
        due(x.choice(0, 0, 2), 0, "TOKENS of nothing");
        due(x.choice(0, 1, 0), 4, "MEMBERS");
        due(x.choice(0, 1, 1), 10, "FREE ones");
        due(x.choice(0, 1, 2), 2, "TOKENS");
        due(x.choice(0, 2, 1), 0, "FREE ones, none");
        due(x.choice(0, 2, 2), 4, "TOKENS, four");
        due(x.choice(0, 3, 0), NONE, "choice(0, 3, 0)");
        due(x.choice(0, -1, 0), NONE, "choice(0, -1, 0)");
        due(x.choice(0, 0, 3), NONE, "choice(0, 0, 3)");
        due(x.choice(0, 0, -1), NONE, "choice(0, 0, -1)");
        due(x.choice(1, 0, 0), NONE, "choice(1, 0, 0)");
        due(x.choice(-1, 0, 0), NONE, "choice(-1, 0, 0)");
    }

    // ---- promises 21 to 27 ----

    private static void headCounts() {
        about("promise 21");
        TwoLevels x = asked("A=|aA;B=|Ba;AB:;ABA:;A:;aA:;b:;aaa:", "aaa", "");
        due(x.heads(0), 4, "AB");
        due(x.heads(1), 2, "ABA: A alike at both places");
        due(x.heads(2), 1, "A");
        due(x.heads(3), 1, "aA");
        due(x.heads(4), 0, "b");
        due(x.heads(5), 1, "aaa");
        due(x.heads(6), NONE, "heads(6)");
        due(x.heads(-1), NONE, "heads(-1)");
        TwoLevels y = asked("A=|aA;B=A;C=A;D=A;E=A;F=A;ABCDEF:", "aaaaaaaaaa", "");
        due(y.heads(0), 3003, "ten letters in six parts");
        Calls.notion(y, "");
        due(y.heads(0), 1, "no letters in six parts");
        Calls.notion(y, "b");
        due(y.heads(0), 0, "a letter that is in none");
        TwoLevels z = asked("A=a|b|AA;AxA:;A:", "abxab", "");
        due(z.heads(0), 1, "AxA");
        due(z.heads(1), 0, "A");
        Calls.notion(z, "abxba");
        due(z.heads(0), 0, "AxA with another second");
    }

    private static void assignments() {
        about("promise 22");
        TwoLevels x = asked("A=|aA;B=|Ba;AB:;BA:;xA:;aAaB:", "aaa", "");
        for (int k = 0; k < 4; k++) {
            due(x.assigned(0, k, 'A', NONE), k, "A of AB");
            due(x.assigned(0, k, 'B', NONE), 3 - k, "B of AB");
            due(x.assigned(1, k, 'B', NONE), k, "B of BA");
        }
        due(x.assigned(0, 2, 'A', 1), 'a', "a letter");
        due(x.assigned(0, 2, 'A', 2), -2, "a letter behind");
        due(x.assigned(0, 4, 'A', NONE), -2, "an ASSIGNMENT behind");
        due(x.assigned(0, HIGH, 'A', HIGH), -2, "both behind");
        due(x.assigned(2, 0, 'A', NONE), -2, "a RULE that has none");
        due(x.assigned(2, 0, 'B', NONE), NONE, "B that is not in the HEAD");
        due(x.assigned(0, 0, 'C', NONE), NONE, "C that is none");
        due(x.assigned(0, 0, 'a', NONE), NONE, "a small letter");
        due(x.assigned(0, -1, 'A', NONE), NONE, "k below 0");
        due(x.assigned(0, 9, 'A', -2), NONE, "i below NONE");
        due(x.assigned(4, 0, 'A', NONE), NONE, "RULE 4");
        due(x.assigned(-1, 0, 'A', NONE), NONE, "RULE -1");
        due(x.assigned(3, 1, 'A', NONE), 1, "A of aAaB");
        due(x.assigned(3, 0, 'B', NONE), 1, "B of aAaB");
        TwoLevels y = asked("A=a|ab|abc|bc;B=bcd|cd|d|cdd;C=|d;ABC:", "abcdd", "");
        due(y.heads(0), 4, "a bcd d, ab cd d, ab cdd, abc d d");
        due(y.assigned(0, 0, 'A', NONE), 1, "A of the first");
        due(y.assigned(0, 1, 'B', NONE), 2, "B of the second");
        due(y.assigned(0, 2, 'B', NONE), 3, "B of the third");
        due(y.assigned(0, 2, 'C', NONE), 0, "C of the third");
        due(y.assigned(0, 3, 'A', 2), 'c', "A of the fourth");
    }

    private static void blindness() {
        about("promise 23");
        TwoLevels x = asked("A=a|b;aA:;A:;ab:;Aa:", "ab", "");
        due(x.blind(), 5, "ab");
        Calls.notion(x, "a");
        due(x.blind(), 2, "a");
        Calls.notion(x, "ba");
        due(x.blind(), 8, "ba");
        Calls.notion(x, "c");
        due(x.blind(), 0, "c");
        Calls.notion(x, "aa");
        x.drop(1);
        due(x.blind(), 5, "aa without RULE 1");
        TwoLevels y = asked("c:;c:;c:;c:;c:;c:;c:;c:;c:;c:", "c", "");
        due(y.blind(), 1023, "all ten");
    }

    private static void holding() {
        about("promise 24");
        TwoLevels x = asked("s:t,u;t:;u:v/\"x;v:t;w:w;p:p,p/q,p;q:", "s", "x");
        due(x.holds(), 1, "s, whatever THE TEXT is");
        x.settle(0, 3);
        due(x.holds(), 0, "s by DEPTH 3");
        x.settle(0, 4);
        due(x.holds(), 1, "s by DEPTH 4");
        Calls.notion(x, "w");
        due(x.holds(), 0, "w");
        Calls.notion(x, "z");
        due(x.holds(), 0, "a BLIND one");
        Calls.notion(x, "p");
        x.settle(0, 12);
        due(x.holds(), -3, "p");
        TwoLevels y = asked("A=a|aA;eAA:;nAA:eAA", "eaaaa", "");
        due(y.holds(), 1, "a predicate: two alike");
        Calls.notion(y, "eaaa");
        due(y.holds(), 0, "a predicate: not alike");
    }

    private static void deriving() {
        about("promise 25");
        TwoLevels x = asked(COPIES, "s", "a a b b");
        due(x.derives(), 1, "a a b b");
        Calls.text(x, "a a b");
        due(x.derives(), 0, "a a b");
        Calls.text(x, "a b");
        due(x.derives(), 1, "a b");
        Calls.text(x, "");
        due(x.derives(), 0, "nothing");
        Calls.text(x, "a a a b b b");
        due(x.derives(), 0, "a a a b b b: LONG is 2");
        x.settle(1, 3);
        due(x.derives(), 1, "a a a b b b: LONG is 3");
        x.settle(0, 3);
        due(x.derives(), 0, "by DEPTH 3");
        x.settle(0, 4);
        due(x.derives(), 1, "by DEPTH 4");
        TwoLevels y = asked("A=a;s:\"AAAAAA,t;t:\"aaaaaA", "s", "aaaaaa aaaaaa");
        due(y.derives(), 1, "TOKENS with METANOTIONS");
        TwoLevels z = asked("N=|aN;sN:\"NNNN", "saa", "aaaaaaaa");
        due(z.derives(), 1, "a TOKEN of eight letters");
        ask(z, "saaa", "aaaaaaaaaa");
        due(z.derives(), 0, "a TOKEN of twelve letters is none");
        TwoLevels n = asked("N=|aN;sN:NNNN;NN:", "saa", "");
        due(n.derives(), 1, "a NOTION of eight letters");
        Calls.notion(n, "saaa");
        due(n.derives(), 0, "a NOTION of twelve letters derives nothing");
        due(n.steps(0), 1, "and is no STEP");
        TwoLevels e = asked("E=;s:\"E;E:", "s", "");
        due(e.derives(), 0, "a TOKEN of no letters is no WORD");
        Calls.notion(e, "");
        due(e.derives(), 1, "a notion of no letters");
        TwoLevels p = asked("p:p,p/\"x;q:p,q/p", "q", "y y y");
        p.settle(0, 12);
        due(p.derives(), -3, "too many STEPS");
        TwoLevels t = asked("F=f|g;s:\"x,tF,\"y/\"F,\"F/tF,\"F;tf:;tg:\"y", "s", "x y");
        due(t.derives(), 1, "TOKENS ahead and behind");
        due(t.steps(0), 2, "STEPS: s, tf for none");
        Calls.text(t, "x y y");
        due(t.derives(), 1, "a WORD between");
        due(t.free(0, 'F', 0), 'g', "by the second word");
        Calls.text(t, "g g");
        due(t.node(0, 1), 1, "TOKENS alone");
        Calls.text(t, "g");
        due(t.derives(), 0, "tg needs y");
        Calls.text(t, "f");
        due(t.node(0, 1), 2, "a NOTION ahead of a TOKEN");
        Calls.text(t, "x");
        due(t.derives(), 0, "x alone");
    }

    /** What is tried first shows in NODES. */
    private static void orderOfTrying() {
        about("promise 25");
        TwoLevels x = asked("A=a|b|ab;B=c|bc|abc;s:A,B/\"x;AB:\"y;A:\"z;B:\"z;C:\"q;C=abc", "s", "z z");
        due(x.node(0, 1), 0, "the first alternative");
        due(x.free(0, 'A', 0), 'a', "the first word of A");
        due(x.free(0, 'B', NONE), 1, "the first word of B");
        TwoLevels y = asked("A=a|b;B=c|d;s:B,A;b:\"x;d:\"y;c:\"z", "s", "y x");
        due(y.free(0, 'B', 0), 'd', "B");
        due(y.free(0, 'A', 0), 'b', "A");
        due(y.steps(0), 14, "c, three times, with a and b; d, a, d with a; d, d, b with b; and s");
        TwoLevels f = asked("A=a|b;B=c|d;s:\"x,BA;cb:;da:", "s", "x");
        due(f.free(0, 'B', 0), 'c', "B stands first and changes last");
        due(f.free(0, 'A', 0), 'b', "A changes first");
        TwoLevels r = asked("s:\"b;s:\"a/\"a,t;s:\"a;t:", "s", "a");
        due(r.node(0, 0), 1, "the first RULE that does");
        due(r.node(0, 1), 0, "its first alternative");
        TwoLevels k = asked("A=|aA;B=|Ba;AB:\"Bb,\"A", "aaa", "aab a");
        due(k.node(0, 2), 1, "the second ASSIGNMENT");
        TwoLevels m = asked("s:t,t,t;t:/\"x/\"x,\"x", "s", "x x x");
        due(m.derives(), 1, "three t");
        due(m.node(1, 4), 0, "the first t: no WORD");
        due(m.node(2, 4), 1, "the second t");
        due(m.node(3, 4), 2, "the last t");
    }

    private static void stepCounts() {
        about("promise 26");
        TwoLevels x = asked(COPIES, "s", "a a b b");
        due(x.steps(0), 14, "STEPS");
        due(x.steps(1), 0, "BLIND ones");
        due(x.steps(2), 0, "ends of DEPTH");
        due(x.steps(3), 2, "the greatest depth");
        due(x.steps(4), NONE, "steps(4)");
        due(x.steps(-1), NONE, "steps(-1)");
        x.settle(0, 1);
        due(x.steps(0), 11, "two words of N, each asked for none to four WORDS, and s");
        due(x.steps(2), 10, "ends of DEPTH");
        due(x.steps(3), 1, "the greatest depth, by DEPTH 0");
        due(x.steps(1), 0, "BLIND ones");
        TwoLevels b = asked("s:x,y/z;z:\"a,w", "s", "a");
        due(b.steps(0), 5, "s, x for none, x for one, z, w");
        due(b.steps(1), 3, "x, x, w");
        due(b.steps(3), 2, "the greatest depth");
        b.settle(0, 2);
        due(b.steps(1), 2, "w is asked by DEPTH 0");
        due(b.steps(2), 1, "w");
        TwoLevels p = asked("p:p,p", "p", "");
        p.settle(0, 12);
        due(p.steps(0), 13, "p goes down once");
        due(p.steps(3), 12, "to DEPTH 12");
        TwoLevels q = asked("q:a,a,a,a/a,a,a,a/a,a,a,a/a,a,a,a;a:b,c/b,c/b,c/b,c;b:/d/d/d;c:d,d/d,d/d,d/d,d;d:f", "q", "x x x x x x x x");
        due(q.steps(0), -3, "more than 500");
        due(q.steps(3), -3, "more than 500");
        due(q.steps(4), NONE, "steps(4)");
        exactly();
    }

    /** 500 STEPS are an answer, 501 are none. */
    private static void exactly() {
        // C HAS 8 + 12 words (the first 20), each asked for none to five WORDS in four alternatives.
        String tens = "A=a|b|c|d;B=e|f|g|h;C=A|B|AA;s:C,y/C,y/";
        TwoLevels x = asked(tens + "C,y/C,y", "s", "x x x x x");
        due(x.meta('C', 1), 20, "words");
        due(x.steps(0), 1 + 4 * 20 * 6, "STEPS");
        TwoLevels y = asked(tens + "C,y/C,y;s:u,v,\"x;u:;v:q,r,r", "s", "x x");
        due(y.steps(0), 1 + 4 * 20 * 3 + 3 + 3 * 3, "STEPS with others");
        for (int more = 0; more < 24; more++) {
            StringBuilder rest = new StringBuilder();
            for (int k = 0; k < more; k++) rest.append(k % 4 == 0 ? ";s:z" : "/z");
            TwoLevels z = asked(tens + "C,y/C,y" + rest, "s", "x x x x x");
            int all = 481 + more;
            due(z.steps(0), all > 500 ? -3 : all, "STEPS, " + all + " of them");
            due(z.derives(), all > 500 ? -3 : 0, "derives by " + all);
        }
    }

    private static void leastDepth() {
        about("promise 27");
        TwoLevels x = asked(COPIES, "s", "a a b b");
        due(x.least(), 3, "a a b b");
        x.settle(0, 1);
        due(x.least(), 3, "whatever DEPTH is");
        Calls.text(x, "a b");
        due(x.least(), 2, "a b");
        Calls.text(x, "b a");
        due(x.least(), -2, "b a");
        due(new TwoLevels().least(), -2, "no GRAMMAR");
        TwoLevels w = asked("N=|iN;E=;iN:N;E:\"x", "iiiiiiiiii", "x");
        due(w.least(), 11, "ten i, one by one");
        TwoLevels v = asked("N=|iN;E=;iN:sN;sN:N;E:\"x", "iiiiii", "x");
        due(v.least(), -2, "13 would do");
        Calls.notion(v, "siiiii");
        due(v.least(), 12, "12 does");
        TwoLevels p = asked("p:p,p/\"x;q:p,q/p", "q", "y y y");
        due(p.least(), -3, "more than 500 STEPS");
        TwoLevels q = asked("s:\"y/p;p:p,p/p,p/p,p/p,p", "s", "y");
        due(q.least(), 1, "found ahead of it");
    }

    // ---- promises 28 to 32 ----

    private static void nodes() {
        about("promise 28");
        TwoLevels x = asked(COPIES, "s", "a a b b");
        int[][] want = {
            // RULE, alternative, ASSIGNMENT, first WORD, how many, above, letters, how deep
            {0, 0, 0, 0, 4, NONE, 1, 0},
            {1, 0, 0, 0, 2, 0, 3, 1},
            {2, 0, 0, 1, 1, 1, 2, 2},
            {3, 0, 0, 2, 2, 0, 3, 1},
            {4, 0, 0, 3, 1, 3, 2, 2},
        };
        for (int k = 0; k < want.length; k++) {
            for (int what = 0; what < 8; what++) due(x.node(k, what), want[k][what], "node(" + k + ", " + what + ")");
            due(x.node(k, 8), NONE, "node(" + k + ", 8)");
            due(x.node(k, -1), NONE, "node(" + k + ", -1)");
        }
        due(x.node(NONE, 0), 5, "NODES");
        due(x.node(NONE, 1), NONE, "node(NONE, 1)");
        due(x.node(5, 0), NONE, "node(5, 0)");
        due(x.node(-2, 0), NONE, "node(-2, 0)");
        Calls.text(x, "a");
        due(x.node(NONE, 0), NONE, "without a DERIVATION");
        due(x.node(0, 0), NONE, "without a DERIVATION");
        TwoLevels y = asked("t:/\"q;s:t,u/t,\"x,t;u:\"x,v", "s", "x q");
        int[][] other = {
            {1, 1, 0, 0, 2, NONE, 1, 0},
            {0, 0, 0, 0, 0, 0, 1, 1},
            {0, 1, 0, 1, 1, 0, 1, 1},
        };
        due(y.node(NONE, 0), 3, "NODES: what was tried in vain is gone");
        for (int k = 0; k < other.length; k++) {
            for (int what = 0; what < 8; what++) due(y.node(k, what), other[k][what], "node(" + k + ", " + what + ")");
        }
        y.holds();
        y.least();
        due(y.node(2, 3), 1, "behind other searches");
        y.swap(0, 1);
        due(y.node(0, 0), 0, "RULES moved");
        y.undo();
        due(y.node(0, 0), 1, "and undone");
        due(y.node(HIGH, 0), NONE, "node(highest, 0)");
    }

    private static void spelledLetters() {
        about("promise 29");
        TwoLevels x = asked(COPIES, "s", "a a b b");
        String[] notions = {"s", "aii", "ai", "bii", "bi"};
        for (int k = 0; k < notions.length; k++) {
            for (int i = 0; i < notions[k].length(); i++) due(x.spelled(k, i), notions[k].charAt(i), "spelled(" + k + ", " + i + ")");
            due(x.spelled(k, notions[k].length()), NONE, "behind the last letter");
            due(x.spelled(k, -1), NONE, "spelled(" + k + ", -1)");
        }
        due(x.spelled(5, 0), NONE, "spelled(5, 0)");
        due(x.spelled(NONE, 0), NONE, "spelled(NONE, 0)");
        Calls.text(x, "b");
        due(x.spelled(0, 0), NONE, "without a DERIVATION");
    }

    private static void freeWords() {
        about("promise 30");
        TwoLevels x = asked("A=a|bc;B=|x;C=c;s:\"A,tB/\"Bd;tB:\"BC", "s", "bc xc");
        due(x.free(0, 'A', NONE), 2, "A");
        due(x.free(0, 'A', 0), 'b', "its first letter");
        due(x.free(0, 'A', 1), 'c', "its second letter");
        due(x.free(0, 'A', 2), NONE, "its third letter");
        due(x.free(0, 'A', -2), NONE, "i below NONE");
        due(x.free(0, 'B', NONE), 1, "B");
        due(x.free(0, 'B', 0), 'x', "its letter");
        due(x.free(0, 'C', NONE), NONE, "C is in another");
        due(x.free(1, 'C', NONE), 1, "C");
        due(x.free(1, 'B', NONE), NONE, "B is in the HEAD");
        due(x.free(1, 'A', NONE), NONE, "A is not there");
        due(x.free(0, 'D', NONE), NONE, "D is none");
        due(x.free(0, 'a', NONE), NONE, "a is none");
        due(x.free(2, 'A', NONE), NONE, "NODE 2");
        due(x.free(-1, 'A', NONE), NONE, "NODE -1");
        Calls.text(x, "bc c");
        due(x.free(0, 'B', NONE), 0, "B for nothing");
        due(x.free(0, 'B', 0), NONE, "no letter of it");
        Calls.text(x, "bc");
        due(x.free(0, 'A', NONE), NONE, "without a DERIVATION");
    }

    private static void checking() {
        about("promise 31");
        TwoLevels x = asked(COPIES, "s", "a a b b");
        due(x.checked(), NONE, "all are as told");
        x.swap(1, 2);
        due(x.checked(), NONE, "RULES moved");
        x.holds();
        x.least();
        due(x.checked(), NONE, "behind other searches");
        Calls.text(x, "a");
        due(x.checked(), -2, "without a DERIVATION");
        TwoLevels y = asked("A=|aA;B=|Ba;AB:\"Bb,C,\"A;C=|c;C:", "aaa", "aab a");
        due(y.checked(), NONE, "with ASSIGNMENTS and FREE ones");
        TwoLevels p = asked("p:p,p/\"x;q:p,q/p", "q", "y y y");
        p.settle(0, 12);
        due(p.checked(), -2, "more than 500 STEPS");
    }

    private static void counting() {
        about("promise 32");
        TwoLevels x = asked("A=a;C=C;Z=ZZ|A;F=ZC;b:/;c:x,y/z;A:", "abc", "d e");
        x.settle(0, 7);
        x.settle(1, 0);
        x.drop(2);
        x.keep(1);
        Calls.put(x, "12345");
        int[] want = {4, 2, 4, 2, 3, 7, 0, 3, 5, 2, 1 << 2 | 1 << 5};
        for (int what = 0; what < want.length; what++) due(x.count(what), want[what], "count(" + what + ")");
        due(x.count(11), NONE, "count(11)");
        due(x.count(-1), NONE, "count(-1)");
        due(x.count(LOW), NONE, "count(lowest)");
        x.keep(0);
        due(x.count(9), 3, "SHELVES");
    }
}
