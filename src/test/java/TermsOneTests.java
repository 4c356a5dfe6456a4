/**
 * The boundary cases that the document's Terms I name, a test each: what a GRAMMAR may have, and the FAULTS of a text
 * that is none. The last case that is taken stands beside the first that is refused.
 */
public final class TermsOneTests extends Checks {
    private static final String SIX = "A=;B=;C=;D=;E=;F=";
    private static final String TEN = "a:;a:;a:;a:;a:;a:;a:;a:;a:;a:";

    private TermsOneTests() {
    }

    public static void main(String[] args) throws IllegalAccessException {
        runAll(TermsOneTests.class);
        finish();
    }

    // ---- METANOTIONS ----

    static void termMetanotionsMayBeNone() {
        fine("", 0, 0);
        fine("a:b", 1, 0);
    }

    static void termMetanotionsAreSixAtMost() {
        fine("A=;B=;C=;D=;E=", 0, 5);
        fine(SIX, 0, 6);
        fault(SIX + ";G=", 18, 3);
        fine("U=;V=;W=;X=;Y=;Z=", 0, 6);
        fault("U=;V=;W=;X=;Y=;Z=;A=", 18, 3);
    }

    static void termMetanotionsAreCapitalsFromAToZ() {
        TwoLevels x = told("A=a;Z=z;AZ:");
        due(x.meta('A', 0), 1, "A");
        due(x.meta('Z', 0), 1, "Z");
        due(x.rule(0, 2), 1 | 1 << 25, "both in a HEAD");
        fault("@=a", 0, 1);
        fault("[=a", 0, 1);
        fault("A=@", 2, 1);
        fault("A=[", 2, 1);
        fault("a:@", 2, 1);
        fault("a:[", 2, 1);
    }

    static void termSmallLettersGoFromAToZ() {
        fine("A=az;az:az,\"za", 1, 1);
        fault("A=`", 2, 1);
        fault("A={", 2, 1);
        fault("`:", 0, 1);
        fault("{:", 0, 1);
        fault("a:\"`", 3, 1);
        fault("a:\"{", 3, 1);
    }

    static void termMetanotionHasOneToFourAlternatives() {
        due(told("A=").meta('A', 0), 1, "one, of no SIGN");
        due(told("A=a").meta('A', 0), 1, "one");
        due(told("A=|").meta('A', 0), 2, "two, of no SIGN");
        due(told("A=a|b|c").meta('A', 0), 3, "three");
        due(told("A=a|b|c|d").meta('A', 0), 4, "four");
        due(told("A=|||").meta('A', 0), 4, "four, of no SIGN");
        fault("A=a|b|c|d|e", 9, 3);
        fault("A=a|b|c|d|", 9, 3);
        fault("A=||||", 5, 3);
        fault("A = a | b | c | d | e", 18, 3);
        fault("A=a|b|c|d;B=a|b|c|d|e", 19, 3);
    }

    static void termRowHasNoneToSixSigns() {
        TwoLevels x = asked("A=;B=a;C=abcdef;D=BBBBBB;E=|abcdef;F= a b c d e f ", "abcdef", "");
        due(x.is('C'), 1, "six small letters");
        due(x.is('E'), 1, "six in the second ROW");
        due(x.is('F'), 1, "six with blanks");
        Calls.notion(x, "aaaaaa");
        due(x.is('D'), 1, "six capitals");
        due(x.is('C'), 0, "other letters");
        Calls.notion(x, "");
        due(x.is('A'), 1, "no SIGN");
        due(x.is('E'), 1, "no SIGN in the first ROW");
        due(x.is('B'), 0, "one SIGN");
        fault("C=abcdefg", 8, 2);
        fault("C=abcdefG", 8, 2);
        fault("C=|abcdefg", 9, 2);
        fault("C=a|b|c|abcdefg", 14, 2);
        fault("C= a b c d e f g", 15, 2);
        fault("C=CCCCCCC", 8, 2);
        fault("C=abcdef1", 8, 1);
    }

    static void termWordsAreOfEachCapitalByItself() {
        dueWords(told("A=a|b;B=AA"), 'B', "aa", "ab", "ba", "bb");
        dueWords(told("A=|a;B=AbA"), 'B', "b", "ab", "ba");
    }

    static void termWordsMayBeNone() {
        TwoLevels x = asked("A=A;B=aB|Ba;C=AB|BA;D=D|;E=Ea|b", "", "");
        dueWords(x, 'A');
        dueWords(x, 'B');
        dueWords(x, 'C');
        dueWords(x, 'D', "");
        dueWords(x, 'E', "b", "ba");
        due(x.count(10), 7, "METANOTIONS that derive nothing at all");
    }

    // ---- RULES ----

    static void termRulesMayBeNone() {
        fine("A=a", 0, 1);
        fine("", 0, 0);
    }

    static void termRulesAreTenAtMost() {
        fine(TEN.substring(3), 9, 0);
        fine(TEN, 10, 0);
        fault(TEN + ";a:", 30, 3);
        fault(TEN + ";   abc  :", 33, 3);
        fault(TEN + ";abcdef:", 30, 3);
        fine(SIX + ";" + TEN, 10, 6);
        fault(SIX + ";" + TEN + ";F:", 48, 3);
    }

    static void termHeadHasOneToSixSigns() {
        fault(":", 0, 1);
        fault("  :a", 2, 1);
        fault("a:; :", 4, 1);
        due(told("a:").rule(0, 0), 1, "one");
        due(told("abcdef:").rule(0, 0), 6, "six");
        due(told("ABCDEF:;" + SIX).rule(0, 0), 6, "six capitals");
        due(told(" a b c d e f :").rule(0, 0), 6, "six with blanks");
        fault("abcdefg:", 6, 2);
        fault("ABCDEFG:", 6, 2);
        fault(" a b c d e f g:", 13, 2);
        fault("a:;abcdefg:", 9, 2);
    }

    static void termRuleHasOneToFourAlternatives() {
        due(told("a:").rule(0, 1), 1, "one, of no MEMBER");
        due(told("a:b").rule(0, 1), 1, "one");
        due(told("a:/").rule(0, 1), 2, "two");
        due(told("a:b/c/d/e").rule(0, 1), 4, "four");
        due(told("a:///").rule(0, 1), 4, "four, of no MEMBER");
        fault("a:b/c/d/e/f", 9, 3);
        fault("a:b/c/d/e/", 9, 3);
        fault("a:////", 5, 3);
        fault("a:b / c / d / e / f", 16, 3);
        fault("a:///;b:////", 11, 3);
    }

    static void termAlternativeHasNoneToFourMembers() {
        TwoLevels x = told("a:/b/b,c,d,e/\"b,\"c,\"d,\"e");
        due(x.choice(0, 0, 0), 0, "none");
        due(x.choice(0, 1, 0), 1, "one");
        due(x.choice(0, 2, 0), 4, "four NOTIONS");
        due(x.choice(0, 3, 0), 4, "four TOKENS");
        fault("a:b,c,d,e,f", 9, 3);
        fault("a:b,c,d,e,", 9, 3);
        fault("a:b,c,d,e , f", 10, 3);
        fault("a:\"b,\"c,\"d,\"e,\"f", 13, 3);
        fault("a:/b,c,d,e,f", 10, 3);
        fault("a:b,c,d,e/b,c,d,e,f", 17, 3);
        fault("a:b,c,d,,", 8, 1);
    }

    static void termNotionHasOneToSixSigns() {
        fine("a:b,abcdef", 1, 0);
        fine("a:AAAAAA;A=", 1, 1);
        fault("a:,b", 2, 1);
        fault("a:b,", 4, 1);
        fault("a:b, /c", 5, 1);
        fault("a:abcdefg", 8, 2);
        fault("a:b,abcdefg", 10, 2);
        fault("a: a b c d e f g", 15, 2);
    }

    static void termTokenHasOneToSixSigns() {
        fine("a:\"b,\"abcdef", 1, 0);
        fine("a:\"AAAAAA;A=", 1, 1);
        fault("a:\"", 3, 1);
        fault("a:\",b", 3, 1);
        fault("a:\" /b", 4, 1);
        fault("a:\";b:", 3, 1);
        fault("a:\"abcdefg", 9, 2);
        fault("a:b,\"abcdefg", 11, 2);
    }

    static void termTokenHasOneMarkAhead() {
        fault("a:\"\"b", 3, 1);
        fault("a:b\"", 3, 1);
        fault("a:b\"c", 3, 1);
        fault("\"a:b", 0, 1);
        fault("A=\"b", 2, 1);
        fine("a: \" b", 1, 0);
    }

    // ---- FREE METANOTIONS ----

    static void termFreeMetanotionsAreTwoAtMost() {
        String told = ";A=;B=;C=;D=";
        fine("a:b" + told, 1, 4);
        fine("a:A" + told, 1, 4);
        fine("a:AB" + told, 1, 4);
        fault("a:ABC" + told, 4, 3);
        fault("a:A,B,C" + told, 6, 3);
        fault("a:A,\"B,b,\"bC" + told, 11, 3);
        fault("a:\"A,\"B,\"C" + told, 9, 3);
        fault("a:A , B , b C" + told, 12, 3);
    }

    static void termFreeMetanotionThatStandsAgainIsNoThirdOne() {
        fine("a:ABABAB,A,\"B,BA;A=;B=", 1, 2);
        fault("a:ABABAB,A,\"B,BAC;A=;B=;C=", 16, 3);
    }

    static void termMetanotionOfTheHeadIsNotFree() {
        fine("AB:CD,AB,\"BA,ABCDAB;A=;B=;C=;D=", 1, 4);
        fault("AB:CD,AB,\"BA,ABCDAE;A=;B=;C=;D=;E=", 18, 3);
        TwoLevels x = told("AB:CD,AB;A=;B=;C=;D=");
        due(x.choice(0, 0, 1), 1 << 2 | 1 << 3, "C and D");
        due(told("A:A;A=").choice(0, 0, 1), 0, "none");
    }

    static void termFreeMetanotionsAreCountedInEachAlternative() {
        TwoLevels x = told("a:A,B/C,D/B,C/D,A;A=;B=;C=;D=");
        due(x.choice(0, 0, 1), 3, "A and B");
        due(x.choice(0, 1, 1), 12, "C and D");
        due(x.choice(0, 2, 1), 6, "B and C");
        due(x.choice(0, 3, 1), 9, "D and A");
        fault("a:A,B/C,D/B,C/D,AB;A=;B=;C=;D=", 17, 3);
        fine("a:A,B;b:C,D;A=;B=;C=;D=", 2, 4);
    }

    // ---- the text ----

    static void termTextHasAtMostFiveHundredBytes() {
        String full = many("abcdef:abcdef,abcdef,\"abcdef/bcdef,bcdef,\"bcdef;", 9) + many(" ", 63) + "ab:b";
        due(full.length(), 499, "the test's own text");
        fine(full + "c", 10, 0);
        fault(full + "1", 499, 1);
        fault(full + ",", 500, 1);
        fault(full + ";", 500, 1);
        fault(full.substring(0, 499) + "Z", 499, 5);
        fine(many(" ", 500), 0, 0);
        fine(many(" ", 498) + "a:", 1, 0);
        fine("a:" + many(" ", 498), 1, 0);
        fault(many(" ", 499) + "a", 500, 1);
        TwoLevels x = new TwoLevels();
        Calls.put(x, full + "c");
        due(x.feed(0, 0, 0, 0, 0), NONE, "a 501st byte");
        due(x.tell(), 10, "500 bytes");
    }

    static void termTextMayBeEmpty() {
        fine("", 0, 0);
        fine(" ", 0, 0);
        fine("     ", 0, 0);
    }

    static void termPartsStandBetweenSemicolons() {
        fine("A=", 0, 1);
        fine("A=;a:", 1, 1);
        fault(";", 0, 1);
        fault(" ;", 1, 1);
        fault("A=;", 3, 1);
        fault("A=;  ", 5, 1);
        fault("a:;", 3, 1);
        fault("a:;;b:", 3, 1);
        fault("a:; ;b:", 4, 1);
        fault("a: b:", 4, 1);
    }

    static void termChoiceMayBeNothing() {
        TwoLevels x = told("a: / b / ;b:/;c:  ");
        due(x.choice(0, 0, 0), 0, "the first");
        due(x.choice(0, 1, 0), 1, "the second");
        due(x.choice(0, 2, 0), 0, "the last");
        due(x.choice(1, 0, 0) + x.choice(1, 1, 0), 0, "both");
        due(x.choice(2, 0, 0), 0, "blanks alone");
        fault("a:,", 2, 1);
        fault("a:b/,", 4, 1);
    }

    static void termBlanksStandAsOneLikes() {
        TwoLevels x = told("  A  =  a  a  |  |  b  ;  s  t  A  :  \"  x  A  ,  y  z  /  ;  B  =  A  A  ");
        due(x.count(0), 2, "METANOTIONS");
        due(x.meta('A', 0), 3, "alternatives");
        dueWords(x, 'A', "", "b", "aa");
        due(x.rule(0, 0), 3, "SIGNS of the HEAD");
        due(x.choice(0, 0, 0), 2, "MEMBERS");
        due(x.choice(0, 0, 2), 1, "TOKENS");
        due(x.choice(0, 1, 0), 0, "MEMBERS of the second");
        TwoLevels y = told("a:b  ,  \"  c  ,  d  /  \"  e");
        due(y.choice(0, 0, 0), 3, "MEMBERS");
        due(y.choice(0, 0, 2), 1, "TOKENS, blanks ahead of their mark");
        due(y.choice(0, 1, 2), 1, "TOKENS of the second");
        Calls.notion(x, "aaaa");
        due(x.is('B'), 1, "SIGNS with blanks between are one ROW");
    }

    static void termBlankIsTheByte32Alone() {
        int[] others = {0, 9, 10, 13, 31, 33, 127, 128, 160, 255};
        for (int b : others) {
            fault((char) b + "a:", 0, 1);
            fault("a" + (char) b + ":", 1, 1);
            fault("a:" + (char) b, 2, 1);
            fault("A=" + (char) b, 2, 1);
            fault("a:b" + (char) b + "c", 3, 1);
        }
    }

    // ---- FAULTS ----

    static void termFaultOneOfTheFirstByteIsThatOfPlaceNone() {
        for (int b = 0; b < 256; b++) {
            boolean sign = b >= 'a' && b <= 'z' || b >= 'A' && b <= 'Z';
            if (b == ' ') continue;
            TwoLevels x = new TwoLevels();
            due(Calls.tell(x, "" + (char) b), sign ? faulty(1, 1) : -3, "byte " + b + " alone");
        }
    }

    static void termFaultOneWhereTheTextEnds() {
        String whole = "A=a|A;sA:\"xA,y/";
        boolean[] ends = {true, false, true, true, true, true, false, false, false, true, false, true, true, false, true, true};
        int[] rules = {0, 0, 0, 0, 0, 0, 0, 0, 0, 1, 0, 1, 1, 0, 1, 1};
        for (int size = 0; size <= whole.length(); size++) {
            String part = whole.substring(0, size);
            due(Calls.tell(new TwoLevels(), part), ends[size] ? rules[size] : faulty(size, 1), "tell of " + part);
            int blanks = size + 3;
            due(Calls.tell(new TwoLevels(), part + "   "), ends[size] ? rules[size] : faulty(blanks, 1), "tell of " + part + " and blanks");
        }
    }

    static void termFaultOneOfEqualsBehindNoCapitalAlone() {
        fault("=", 0, 1);
        fault("a=b", 1, 1);
        fault("AA=b", 2, 1);
        fault("AB=b", 2, 1);
        fault("Ab=b", 2, 1);
        fault("aB=b", 2, 1);
        fault("A B = b", 4, 1);
        fault("abcdef=b", 6, 1);
        fault("ABCDEF=b", 6, 1);
        fault("A=a;B C=b", 7, 1);
    }

    static void termFaultOneOfEachSignInEachPlace() {
        String signs = "=|:/,;\"";
        // Where a PART begins, behind a capital, behind a small letter, in a ROW, in an empty CHOICE, behind a MEMBER,
        // behind a comma, behind a ".
        String[] ahead = {"", "A", "a", "A=a", "a:", "a:b", "a:b,", "a:\""};
        String[] stands = {"", "=:", ":", "|;", "/;\"", "/,;", "\"", ""};
        for (int p = 0; p < ahead.length; p++) {
            for (int s = 0; s < signs.length(); s++) {
                int got = Calls.tell(new TwoLevels(), ahead[p] + signs.charAt(s));
                int here = faulty(ahead[p].length(), 1);
                boolean can = stands[p].indexOf(signs.charAt(s)) >= 0;
                due(got == here ? 0 : 1, can ? 1 : 0, "whether " + signs.charAt(s) + " can stand behind " + ahead[p]);
            }
        }
    }

    static void termFaultTwoOfASeventhSign() {
        fault("A=bcdefgh;", 8, 2);
        fault("abcdefg", 6, 2);
        fault("a:bcdefgh,", 8, 2);
        fault("a:b,c,\"abcdefgh", 13, 2);
        fault("abcdef1", 6, 1);
        fault("a:abcdef\"", 8, 1);
    }

    static void termFaultThreeOfASeventhMetanotionIsAtItsCapital() {
        fault(SIX + ";G=a", 18, 3);
        fault(SIX + "; G  =a", 19, 3);
        fault(SIX + ";G=1", 18, 3);
        fault("a:;" + SIX + ";b:;G=", 24, 3);
    }

    static void termFaultThreeOfASeventhMetanotionNeedsItsEquals() {
        fault(SIX + ";G", 19, 1);
        fault(SIX + ";G ", 20, 1);
        fault(SIX + ";G;", 19, 1);
        fault(SIX + ";G|", 19, 1);
        fault(SIX + ";Ga=", 20, 1);
        fault(SIX + ";GH=", 20, 1);
        fault(SIX + ";GHIJKLM=", 24, 2);
        fault(SIX + ";G:", 18, 5);
    }

    static void termFaultThreeOfAnEleventhRuleIsAtItsFirstSign() {
        fault(TEN + ";ab:", 30, 3);
        fault(TEN + ";  a b :", 32, 3);
        fault(TEN + ";ab:1", 30, 3);
        fault(TEN + ";ab:ABC", 30, 3);
        fault(TEN + ";A=;b:", 33, 3);
    }

    static void termFaultThreeOfAnEleventhRuleNeedsItsColon() {
        fault(TEN + ";ab", 32, 1);
        fault(TEN + ";ab;", 32, 1);
        fault(TEN + ";ab/", 32, 1);
        fault(TEN + ";ab=", 32, 1);
        fault(TEN + ";:", 30, 1);
        fault(TEN + ";abcdefg:", 36, 2);
        fine(TEN + ";A=", 10, 1);
    }

    static void termFaultThreeOfAThirdFreeOneIsAtItsSign() {
        fault("a:AB,b C,D;A=;B=;C=;D=", 7, 3);
        fault("a:ABC1", 4, 3);
        fault("a:AB1C", 4, 1);
        fault("a:ABC", 4, 3);
    }

    static void termFaultFourOfAMetanotionThatWasTold() {
        fault("A=;A=", 3, 4);
        fault("A=a;  A  =b", 6, 4);
        fault("A=;B=;A=1", 6, 4);
        fault("A=;B=;B=", 6, 4);
        fault("Z=a;a:Z;Z=b", 8, 4);
    }

    static void termFaultFourNeedsItsEquals() {
        fault("A=;A", 4, 1);
        fault("A=;A;", 4, 1);
        fault("A=;AA=", 5, 1);
        fault("A=;AAAAAAA=", 9, 2);
        fine("A=;A:", 1, 1);
    }

    static void termFaultFourIsNoSeventhMetanotion() {
        fault(SIX + ";F=", 18, 4);
        fault(SIX + ";A=", 18, 4);
        fault("A=;B=;C=;D=;E=;A=;F=", 15, 4);
        fault(SIX + ";G=;A=", 18, 3);
    }

    static void termFaultOfOnePlaceIsTheLeast() {
        // The seventh SIGN of a MEMBER that is a third FREE METANOTION, too.
        fault("a:aaaaABC;A=;B=;C=", 8, 2);
        fault("a:AB,abcdefC;A=;B=;C=", 11, 2);
        fault("a:AB,abcdeC;A=;B=;C=", 10, 3);
    }

    static void termFaultIsOfTheFirstPlaceThatIsWrong() {
        fault("a:abcdefg;b:1", 8, 2);
        fault("a:1;b:abcdefg", 2, 1);
        fault("A=;A=;B=||||", 3, 4);
        fault("B=||||;B=", 5, 3);
        fault(SIX + ";G=abcdefg", 18, 3);
        fault(TEN + ";b:b,c,d,e,f", 30, 3);
        fault("a:b,c,d,e,f/1", 9, 3);
    }

    static void termFaultFiveIsOfTheFirstCapitalThatIsNotTold() {
        fault("A=B;C=", 2, 5);
        fault("a:C,B;A=", 2, 5);
        fault("a:bB", 3, 5);
        fault("a:\"B", 3, 5);
        fault("  aB:", 3, 5);
        fault("A=;A:A/A,\"bAB;C=", 12, 5);
    }

    static void termFaultFiveNotIfItIsToldAnywhere() {
        fine("a:B;B=", 1, 1);
        fine("B:;B=", 1, 1);
        fine("A=B;B=A", 0, 2);
        fine("A=A", 0, 1);
        fault("a:B,C;B=", 4, 5);
    }

    static void termFaultFiveOnlyIfThereIsNoOther() {
        fault("a:B;;", 4, 1);
        fault("a:B;c", 5, 1);
        fault("a:B;abcdefg:", 10, 2);
        fault("a:B;A=||||", 9, 3);
        fault("a:B;A=;A=", 7, 4);
        fault("a:ABC", 4, 3);
        fault("a:X" + ";" + SIX + ";G=", 22, 3);
    }

    static void termCapitalsOfManyMorethanSixAreFaultFive() {
        fault("ABCDEF:;GHIJKL:;MNOPQR:;STUVWX:;YZ:", 0, 5);
        fault(SIX + ";A:/G,H/I,J/K,L;A:M,N/O,P/Q,R/S,T;U:V,W;XYZ:", 21, 5);
    }

    // ---- what METANOTIONS HAVE ----

    static void termHasWordsOfAtMostLongLetters() {
        TwoLevels x = told("A=|aA");
        dueWords(x, 'A', "", "a", "aa");
        x.settle(1, 0);
        dueWords(x, 'A', "");
        x.settle(1, 1);
        dueWords(x, 'A', "", "a");
        x.settle(1, 3);
        dueWords(x, 'A', "", "a", "aa", "aaa");
    }

    static void termHasNothingIfAllWordsAreTooLong() {
        TwoLevels x = told("A=aaa;B=AA;C=aaaa");
        dueWords(x, 'A');
        x.settle(1, 3);
        dueWords(x, 'A', "aaa");
        dueWords(x, 'B');
        dueWords(x, 'C');
        due(x.meta('B', 3) + x.meta('C', 3), 2, "they derive longer words");
        x.settle(1, 0);
        dueWords(x, 'A');
    }

    static void termHasNothingOfVeryLongWords() {
        for (String letters : new String[] {"aaaaaa", "bbbbbb", "pppppp", "zzzzzz"}) {
            TwoLevels x = told("A=" + letters + ";B=Aa;C=aAz;D=AAAAAA;E=DDDDDD;F=zA|D|E|q");
            x.settle(1, 3);
            for (int name = 'A'; name <= 'E'; name++) dueWords(x, name);
            dueWords(x, 'F', "q");
            TwoLevels y = told("A=" + letters.substring(3) + ";B=AA;C=AAA;D=AAAAAA;E=BCD|Aa|aA");
            y.settle(1, 3);
            for (int name = 'B'; name <= 'E'; name++) dueWords(y, name);
        }
    }

    static void termHasTheFirstTwenty() {
        TwoLevels x = told("A=a|b|c|d;B=A|AA;C=|A|AA;D=A|AA|AAA;E=AA|eA|e");
        due(x.meta('E', 1), 20, "of 21: AA (16), eA (4), e");
        due(wordOf(x, 'E', 0).equals("e") ? 1 : 0, 1, "its first");
        due(wordOf(x, 'E', 19).equals("ec") ? 1 : 0, 1, "its last");
        due(x.meta('B', 1), 20, "of 20");
        due(wordOf(x, 'B', 19).equals("dd") ? 1 : 0, 1, "the last of 20");
        due(x.meta('C', 1), 20, "of 21");
        due(wordOf(x, 'C', 19).equals("dc") ? 1 : 0, 1, "the last of 21");
        due(x.word('C', 20, NONE), -2, "a 21st");
        x.settle(1, 3);
        due(x.meta('D', 1), 20, "of 84");
        due(wordOf(x, 'D', 19).equals("dd") ? 1 : 0, 1, "the last of 84");
        x.settle(1, 1);
        due(x.meta('D', 1), 4, "of one letter");
        Calls.notion(x, "dd");
        due(x.is('C'), 1, "what it does not HAVE is a word all the same");
    }

    static void termHasNineteenOfNineteen() {
        // AA has 16 words; with aa among them, b, c and d: 19.
        TwoLevels x = told("A=a|b|c|d;B=AA|b|c|d");
        due(x.meta('B', 1), 19, "words");
        due(wordOf(x, 'B', 3).equals("aa") ? 1 : 0, 1, "the fourth");
        due(wordOf(x, 'B', 18).equals("dd") ? 1 : 0, 1, "the last");
        due(x.word('B', 19, NONE), -2, "a twentieth");
    }

    static void termHasTheTwentiethThatIsFoundLast() {
        TwoLevels x = told("L=|y;E=b|c|d|z;R=E|EE;A=LR");
        dueWords(x, 'A', "b", "c", "d", "z", "bb", "bc", "bd", "bz", "cb", "cc", "cd", "cz", "db", "dc", "dd", "dz",
            "yb", "yc", "yd", "yz");
    }

    static void termHasEachWordOnce() {
        dueWords(told("A=a|a|a|a"), 'A', "a");
        dueWords(told("A=|||"), 'A', "");
        dueWords(told("A=a|B|BC|CB;B=a;C="), 'A', "a");
    }

    static void termHasWordsThatComeOverSeveralMetanotions() {
        // Of C comes a word that D has not yet behind all that it had.
        dueWords(told("D=c|C;C=c|B;B=a|c"), 'D', "a", "c");
        dueWords(told("A=B;B=C;C=D;D=E;E=F|A;F=|f"), 'A', "", "f");
    }

    static void termHasWordsByLengthThenByLetters() {
        dueWords(told("A=zz|b|az|"), 'A', "", "b", "az", "zz");
        dueWords(told("A=za|z|b|ab"), 'A', "b", "z", "ab", "za");
    }
}
