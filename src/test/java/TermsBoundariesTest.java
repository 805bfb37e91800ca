/** The boundaries that the document names under "Terms", a test for each sentence that names one. */
public final class TermsBoundariesTest extends Checks {
    private static final String KINDS = "tcaerb";

    private static void size(TillOneOfSort x, int n, long above, long below) {
        fraction("size(" + n + ")", x.size(n, 0), x.size(n, 1), above, below);
    }

    private static void gone(String land, String row, long above, long below) {
        TillOneOfSort x = behind(land, row);
        fraction(land + " gone behind " + row, x.gone(0), x.gone(1), above, below);
    }

    private static void stops(String law, int ones, int zeros, int run, int want) {
        due(law + " stops(" + ones + ", " + zeros + ", " + run + ")", told(law).stops(ones, zeros, run), want);
    }

    private static String times(String text, int times) {
        return text.repeat(times);
    }

    // "A FAMILY has one child behind another till its LAW stops it, MOST at most, one at least."

    /** No child is as many of each sort, too: EVEN and all others don't stop ahead of the first child. */
    private static void oneChildAtLeast() {
        for (char kind : KINDS.toCharArray()) {
            TillOneOfSort x = told("l" + kind + "1;m1;");
            size(x, 1, 1, 1);
            fraction("children " + kind, x.mean(0, 0), x.mean(0, 1), 1, 1);
            for (int z = -3; z <= 3; z++) {
                due("children by lot " + kind, x.lots(40, z, 0) + x.lots(40, z, 1), 40);
            }
        }
        gone("le1;m2;", "", 0, 1);
        gone("le1;m1;", "", 1, 1);
    }

    private static void mostChildrenAtMost() {
        for (char kind : KINDS.toCharArray()) {
            for (int most = 1; most <= 9; most++) {
                TillOneOfSort x = told("l" + kind + "9;m" + most + ";n+5;");
                holds(kind + " some have " + most, x.size(most, 0) > 0);
                size(x, most + 1, 0, 1);
                size(x, 10, 0, 1);
            }
            holds(kind + " some have ten", told("l" + kind + "9;m10;n+5;").size(10, 0) > 0);
        }
    }

    // "MOST (1 .. 10: 5 at first)."

    private static void mostIsFiveAtFirst() {
        TillOneOfSort x = new TillOneOfSort();
        due("MOST", x.count(0), 5);
        size(x, 5, 1, 16);
        size(x, 6, 0, 1);
    }

    private static void mostFromOneToTenByCall() {
        TillOneOfSort x = new TillOneOfSort();
        due("0", x.set(0, 0), -4);
        due("11", x.set(0, 11), -6);
        due("1", x.set(0, 1), 5);
        size(x, 1, 1, 1);
        due("0 again", x.set(0, 0), -4);
        due("10", x.set(0, 10), 1);
        size(x, 10, 1, 512);
        due("11 again", x.set(0, 11), -6);
        due("10 stays", x.count(0), 10);
    }

    private static void mostFromOneToTenByLetters() {
        TillOneOfSort x = new TillOneOfSort();
        due("0", tell(x, "m0;"), -2000);
        due("11", tell(x, "m11;"), -2000);
        due("99", tell(x, "m99;"), -2000);
        due("5 stays", x.count(0), 5);
        due("1", tell(x, "m1;"), 1);
        due("it is 1", x.count(0), 1);
        due("10", tell(x, "m10;"), 1);
        due("it is 10", x.count(0), 10);
    }

    // "CHANCE (1 .. 11: 6 at first): in 12ths, how likely a child is of SORT 1."

    private static void chanceIsSixAtFirst() {
        TillOneOfSort x = new TillOneOfSort();
        due("CHANCE", x.count(1), 6);
        fraction("a child of SORT 1", x.trial(1, 1, 0), x.trial(1, 1, 1), 1, 2);
    }

    private static void chanceFromOneToElevenByCall() {
        TillOneOfSort x = new TillOneOfSort();
        due("0", x.set(1, 0), -4);
        due("12", x.set(1, 12), -6);
        due("1", x.set(1, 1), 6);
        fraction("1", x.trial(1, 1, 0), x.trial(1, 1, 1), 1, 12);
        due("0 again", x.set(1, 0), -4);
        due("11", x.set(1, 11), 1);
        fraction("11", x.trial(1, 1, 0), x.trial(1, 1, 1), 11, 12);
        due("12 again", x.set(1, 12), -6);
        due("11 stays", x.count(1), 11);
    }

    private static void chanceFromOneToElevenByLetters() {
        TillOneOfSort x = new TillOneOfSort();
        due("0", tell(x, "c0;"), -2000);
        due("12", tell(x, "c12;"), -2000);
        due("99", tell(x, "c99;"), -2000);
        due("6 stays", x.count(1), 6);
        due("1", tell(x, "c1;"), 1);
        due("it is 1", x.count(1), 1);
        due("11", tell(x, "c11;"), 1);
        due("it is 11", x.count(1), 11);
    }

    // "LEAN (-5 .. 5: 0 at first): so many 12ths more, if the child ahead was of SORT 1, as many less, if it was of
    // SORT 0 (not the first child), 0 at least, 12 at most."

    private static void leanIsNoneAtFirst() {
        TillOneOfSort x = new TillOneOfSort();
        due("LEAN", x.count(2), 5);
        fraction("two of SORT 1", x.trial(2, 2, 0), x.trial(2, 2, 1), 1, 4);
    }

    private static void leanFromFiveLessToFiveMoreByCall() {
        TillOneOfSort x = new TillOneOfSort();
        due("-1", x.set(2, -1), -4);
        due("11", x.set(2, 11), -6);
        due("0", x.set(2, 0), 5);
        fraction("5 less", x.trial(2, 2, 0), x.trial(2, 2, 1), 1, 24);
        due("-1 again", x.set(2, -1), -4);
        due("10", x.set(2, 10), 0);
        fraction("5 more", x.trial(2, 2, 0), x.trial(2, 2, 1), 11, 24);
        due("11 again", x.set(2, 11), -6);
        due("10 stays", x.count(2), 10);
    }

    private static void leanFromFiveLessToFiveMoreByLetters() {
        TillOneOfSort x = new TillOneOfSort();
        due("-6", tell(x, "n-6;"), -2000);
        due("+6", tell(x, "n+6;"), -2000);
        due("-9", tell(x, "n-9;"), -2000);
        due("+9", tell(x, "n+9;"), -2000);
        due("none stays", x.count(2), 5);
        due("-5", tell(x, "n-5;"), 1);
        due("it is -5", x.count(2), 0);
        due("+5", tell(x, "n+5;"), 1);
        due("it is 5", x.count(2), 10);
        due("-0", tell(x, "n-0;"), 1);
        due("it is 0", x.count(2), 5);
        due("+0", tell(x, "n+0;"), 1);
        due("it is 0 again", x.count(2), 5);
    }

    private static void theFirstChildDoesNotLean() {
        for (String lean : new String[] {"n-5;", "n+5;"}) {
            TillOneOfSort x = told("m1;c4;" + lean);
            fraction("ones of one child", x.mean(1, 0), x.mean(1, 1), 1, 3);
            fraction("a trial of one child", x.trial(1, 1, 0), x.trial(1, 1, 1), 1, 3);
            gone("m9;c4;" + lean, "", 1, 3);
            // from 3 on a draw below 12 is 5, from 5 on 1
            due("not below 4", x.lots(1, 3, 1), 0);
            due("below 4", x.lots(1, 5, 1), 1);
        }
    }

    private static void leanBehindAChildOfSort1() {
        gone("lc2;m9;c5;n+1;", "1", 1, 2);
        gone("lc2;m9;c5;n-1;", "1", 1, 3);
        gone("lc2;m9;c5;n+1;", "01", 1, 2);
        fraction("trial", told("n+1;").trial(2, 2, 0), told("n+1;").trial(2, 2, 1), 7, 24);
    }

    private static void leanBehindAChildOfSort0() {
        gone("lt1;m9;c5;n+1;", "0", 1, 3);
        gone("lt1;m9;c5;n-1;", "0", 1, 2);
        gone("lc2;m9;c5;n+1;", "10", 1, 3);
    }

    /** Only the child just ahead counts, not those ahead of it. */
    private static void leanByTheChildAheadAlone() {
        gone("lc5;m9;c5;n+1;", "11101", 1, 2);
        gone("lc4;m9;c5;n+1;", "11100", 1, 3);
        gone("lc4;m9;c5;n+1;", "11001", 1, 2);
    }

    private static void twelveTwelfthsAtMost() {
        gone("lc2;m9;c10;n+1;", "1", 11, 12);
        gone("lc2;m9;c11;n+1;", "1", 1, 1);
        gone("lc2;m9;c11;n+2;", "1", 1, 1);
        gone("lc2;m9;c11;n+5;", "1", 1, 1);
        gone("lt1;m9;c10;n-1;", "0", 11, 12);
        gone("lt1;m9;c11;n-1;", "0", 1, 1);
        gone("lt1;m9;c11;n-5;", "0", 1, 1);
        TillOneOfSort x = told("lc9;m3;c11;n+5;");
        // 111 11/12; 011 and 010, 001 and 000 1/24 * (1, 0; 1/2, 1/2)
        fraction("ones", x.mean(1, 0), x.mean(1, 1), 137, 48);
        fraction("zeros", x.mean(2, 0), x.mean(2, 1), 7, 48);
        fraction("trial", x.trial(3, 3, 0), x.trial(3, 3, 1), 11, 12);
        // from 5 on the draws are 1, 4, 7, 1, 2, 4
        due("all ones by lot", x.lots(1, 5, 1), 3);
    }

    private static void noTwelfthsAtLeast() {
        gone("lc2;m9;c2;n-1;", "1", 1, 12);
        gone("lc2;m9;c1;n-1;", "1", 0, 1);
        gone("lc2;m9;c1;n-2;", "1", 0, 1);
        gone("lc2;m9;c1;n-5;", "1", 0, 1);
        gone("lt1;m9;c2;n+1;", "0", 1, 12);
        gone("lt1;m9;c1;n+1;", "0", 0, 1);
        gone("lt1;m9;c1;n+5;", "0", 0, 1);
        TillOneOfSort x = told("lc9;m2;c1;n-5;");
        // 10 1/12; 01 and 00 11/24 each
        fraction("ones", x.mean(1, 0), x.mean(1, 1), 13, 24);
        fraction("zeros", x.mean(2, 0), x.mean(2, 1), 35, 24);
        fraction("trial", x.trial(2, 2, 0), x.trial(2, 2, 1), 0, 1);
    }

    // "LAW: KIND and FIGURE (1 .. 9): TILL, 1 at first."

    private static void theLawIsTillOneAtFirst() {
        TillOneOfSort x = new TillOneOfSort();
        due("KIND", x.count(3), 0);
        due("FIGURE", x.count(4), 1);
        due("KIND and FIGURE", x.law(0, 1), 1);
        x.law(1, 1);
        due("another object's LAW", new TillOneOfSort().count(3), 0);
    }

    private static void figureFromOneToNineByCall() {
        TillOneOfSort x = new TillOneOfSort();
        due("0", x.law(1, 0), -4);
        due("10", x.law(1, 10), -6);
        due("1 stays", x.law(1, 9), 1);
        due("9 is taken", x.law(1, 1), 19);
        due("1 is taken", x.law(1, 1), 11);
    }

    private static void figureFromOneToNineByLetters() {
        TillOneOfSort x = new TillOneOfSort();
        for (char kind : KINDS.toCharArray()) {
            due("0", tell(x, "l" + kind + "0;"), -2000);
            due("9", tell(x, "l" + kind + "9;"), 1);
            due("it is 9", x.count(4), 9);
            due("1", tell(x, "l" + kind + "1;"), 1);
            due("it is 1", x.count(4), 1);
            due("a second digit", tell(x, "l" + kind + "10;"), -1003);
        }
    }

    // "A LAND is told in letters, one by one (64 at most)."

    private static void sixtyFourLettersAtMost() {
        TillOneOfSort x = new TillOneOfSort();
        String land = times("m3;", 20) + "lt1;";
        for (int i = 0; i < 64; i++) {
            due("letter " + (i + 1), x.letter(land.charAt(i)), i + 1);
        }
        due("letter 65", x.letter(';'), -6);
        due("letters", x.count(7), 64);
        due("STATEMENTS of 64 letters", x.land(), 21);
        due("no letters", x.count(7), 0);
        due("the first letter again", x.letter('m'), 1);
    }

    private static void theSixtyFifthLetterIsNotThere() {
        TillOneOfSort x = new TillOneOfSort();
        due("the end of 64 letters", tell(x, times("m3;", 20) + "lt1x"), -1063);
        due("the end of 64 letters, one lacks", tell(x, times("m3;", 21) + "m"), -1064);
        due("the 65th is refused", tell(x, times("m3;", 20) + "m10;x"), 21);
        due("the 65th is refused, so it lacks", tell(x, times("m3;", 20) + "f110;"), -1064);
    }

    // "STATEMENTS, each with ";" behind: ... At least one STATEMENT."

    private static void oneStatementAtLeast() {
        TillOneOfSort x = new TillOneOfSort();
        due("none", x.land(), -1000);
        due("none, told by ;", tell(x, ";"), -1000);
        due("one", tell(x, "m3;"), 1);
        due("none again", x.land(), -1000);
    }

    private static void eachWithASemicolonBehind() {
        String[] statements = {"lt1", "m1", "m10", "c1", "c11", "n+5", "n-5", "f0", "f10", "f1111111111"};
        for (String s : statements) {
            due(s, tell(new TillOneOfSort(), s), -1000 - s.length());
            due(s + ";", tell(new TillOneOfSort(), s + ";"), 1);
            due(s + ";;", tell(new TillOneOfSort(), s + ";;"), -1001 - s.length());
            due(s + "m1;", tell(new TillOneOfSort(), s + "m1;"), -1000 - s.length());
            due("m1;" + s, tell(new TillOneOfSort(), "m1;" + s), -1003 - s.length());
        }
    }

    // "l" a letter of a KIND, FIGURE (a digit); "m" MOST (1 or 2 digits); "c" CHANCE (1 or 2 digits); "n" "+" or "-",
    // LEAN (a digit); "f" digits 0, 1 (1 to 10 of them).

    /** Behind each beginning every letter, 0 to 255: those that go on, and all others, which are a fault there. */
    private static void theLettersThatGoOn() {
        String digits = "0123456789";
        String[][] goOn = {
            {"", "lmcnf"}, {"m3;", "lmcnf"},
            {"l", KINDS}, {"lt", digits}, {"lt1", ";"}, {"lb9", ";"},
            {"m", digits}, {"m1", digits + ";"}, {"m10", ";"}, {"m01", ";"},
            {"c", digits}, {"c1", digits + ";"}, {"c11", ";"}, {"c01", ";"},
            {"n", "+-"}, {"n+", digits}, {"n-", digits}, {"n+5", ";"}, {"n-5", ";"},
            {"f", "01"}, {"f0", "01;"}, {"f1", "01;"}, {"f101010101", "01;"}, {"f1010101010", ";"},
        };
        for (String[] state : goOn) {
            for (int letter = 0; letter <= 255; letter++) {
                TillOneOfSort x = new TillOneOfSort();
                letters(x, state[0]);
                x.letter(letter);
                int answer = x.land();
                int place = state[0].length();
                boolean isFaultHere = answer == -1000 - place;
                boolean goesOn = letter > 0 && state[1].indexOf((char) letter) >= 0;
                holds(state[0] + " with letter " + letter + " answers " + answer, isFaultHere != goesOn);
            }
        }
    }

    private static void oneOrTwoDigits() {
        for (String s : new String[] {"m", "c"}) {
            due(s + " without", tell(new TillOneOfSort(), s + ";"), -1001);
            due(s + " one", tell(new TillOneOfSort(), s + "7;"), 1);
            due(s + " two", tell(new TillOneOfSort(), s + "10;"), 1);
            due(s + " three", tell(new TillOneOfSort(), s + "010;"), -1003);
        }
    }

    private static void oneToTenChildrenOfOneFamily() {
        due("none", tell(new TillOneOfSort(), "f;"), -1001);
        for (int children = 1; children <= 10; children++) {
            TillOneOfSort x = told("f" + times("1", children) + ";");
            due("children", x.seen(0, 0), children);
            due("sorts", x.seen(0, 1), (1 << children) - 1);
        }
        due("eleven", tell(new TillOneOfSort(), "f" + times("1", 11) + ";"), -1011);
        due("twelve", tell(new TillOneOfSort(), "f" + times("0", 12) + ";"), -1011);
    }

    /** MOST is no bound of families that were seen. */
    private static void aFamilySeenMayHaveMoreThanMost() {
        TillOneOfSort x = told("m1;f0000000000;");
        due("children", x.seen(0, 0), 10);
        due("sorts", x.seen(0, 1), 0);
    }

    // "a FAMILY that was SEEN (8 at most)."

    private static void eightFamiliesSeenInOneText() {
        TillOneOfSort x = new TillOneOfSort();
        due("eight", tell(x, times("f1;", 8)), 8);
        due("families", x.count(5), 8);
        due("the eighth", x.seen(7, 0), 1);
        TillOneOfSort y = new TillOneOfSort();
        due("nine", tell(y, times("f1;", 9)), -2024);
        due("none of them", y.count(5), 0);
    }

    private static void eightFamiliesSeenInTwoTexts() {
        TillOneOfSort x = told(times("f1;", 7));
        due("an eighth and a ninth", tell(x, "m3;f0;f0;"), -2006);
        due("seven stay", x.count(5), 7);
        due("MOST stays", x.count(0), 5);
        due("an eighth", tell(x, "f0;"), 1);
        due("a ninth", tell(x, "f0;"), -2000);
        due("eight", x.count(5), 8);
        due("others have room", tell(x, "m3;c3;n+1;lc2;"), 4);
    }

    // "Numbers may begin with 0."

    private static void numbersMayBeginWithZero() {
        TillOneOfSort x = new TillOneOfSort();
        due("01", tell(x, "m01;c01;"), 2);
        state("01", x, 1, 1);
        due("09", tell(x, "m09;c09;"), 2);
        state("09", x, 9, 9);
        due("MOST 00", tell(x, "m00;"), -2000);
        due("CHANCE 00", tell(x, "c00;"), -2000);
        state("00 is nothing", x, 9, 9);
    }

    // "FAULT: kind 1 the place of the first letter with which no LAND can go on (the end, if something lacks; an
    // eleventh child is one): -1000 less the place."

    /** Every beginning of a land that is none itself lacks something. */
    private static void theEndIfSomethingLacks() {
        String land = "lt1;m10;c11;n+5;f01;n-5;f1111111111;lb9;m07;";
        int statements = 0;
        for (int length = 0; length <= land.length(); length++) {
            String text = land.substring(0, length);
            boolean ends = text.endsWith(";");
            statements += ends ? 1 : 0;
            due(text, tell(new TillOneOfSort(), text), ends ? statements : -1000 - length);
        }
    }

    private static void theFirstOfTwoFaultsOfKind1() {
        due("two", tell(new TillOneOfSort(), "m3;x;y"), -1003);
        due("a fault ahead of a lack", tell(new TillOneOfSort(), "lx1"), -1001);
        due("the last letter", tell(new TillOneOfSort(), "m3;lt1,"), -1006);
    }

    private static void anEleventhChildIsAFault() {
        due("behind 0 and 1", tell(new TillOneOfSort(), "f01010101010;"), -1011);
        due("behind another STATEMENT", tell(new TillOneOfSort(), "m3;f11111111111;"), -1014);
        due("no ;, ten", tell(new TillOneOfSort(), "f1111111111"), -1011);
        due("no ;, eleven", tell(new TillOneOfSort(), "f11111111111"), -1011);
    }

    // "else kind 2 the place of the first letter of the first STATEMENT that, behind all ahead of it in the text, is
    // not as it must be (a number out of range, no room for more): -2000 less the place."

    private static void kind1AheadOfKind2() {
        due("a letter behind", tell(new TillOneOfSort(), "m0;x"), -1003);
        due("a lack behind", tell(new TillOneOfSort(), "m0;m"), -1004);
        due("no room, and a letter", tell(new TillOneOfSort(), times("f1;", 9) + "."), -1027);
        due("none behind", tell(new TillOneOfSort(), "m0;m3;"), -2000);
    }

    private static void theFirstOfTwoFaultsOfKind2() {
        due("two", tell(new TillOneOfSort(), "m3;c0;lt0;"), -2003);
        due("the later is mended", tell(new TillOneOfSort(), "m3;c1;lt0;"), -2006);
        due("the last", tell(new TillOneOfSort(), "m10;c11;n+5;n+6;"), -2012);
        due("the place is its first letter", tell(new TillOneOfSort(), "f1111111111;m11;"), -2012);
    }

    private static void anImageDoesNotChangeTheRoomOfAText() {
        TillOneOfSort x = told(times("f1;", 6));
        x.image();
        due("two have room", tell(x, "f0;f0;"), 2);
        x.on();
        due("the third has none", tell(x, "f0;f0;f0;"), -2006);
        due("two have room again", tell(x, "f0;f0;"), 2);
    }

    // "Without FAULT all of it comes, with one nothing."

    private static void withoutFaultAllOfItComes() {
        TillOneOfSort x = told("lb9;m10;c11;n+5;f01;f1;");
        state("all", x, 10, 11, 10, 5, 9, 2, 0, 0);
        due("more comes to it", tell(x, "f000;n-5;"), 2);
        state("all", x, 10, 11, 0, 5, 9, 3, 0, 0);
        due("the first", x.seen(0, 1), 2);
        due("the third", x.seen(2, 0), 3);
        due("of two the later", tell(x, "m2;m3;c2;c3;n+2;n+3;lt2;lc3;"), 8);
        state("of two the later", x, 3, 3, 8, 1, 3, 3, 0, 0);
    }

    private static void withAFaultNothing() {
        String ahead = "la3;m7;c4;n-2;f01;";
        String[] faults = {"x", "m", "m0;", "c12;", "n+6;", "lt0;", times("f1;", 8)};
        for (String fault : faults) {
            TillOneOfSort x = told("lr2;m8;c3;n+1;f110;");
            rowOf(x, "10");
            holds(fault + " is one", tell(x, ahead + fault) < 0);
            state("with " + fault, x, 8, 3, 6, 4, 2, 1, 2, 0);
            due("the family", x.seen(0, 1), 3);
            due("no other", x.seen(1, 0), -9);
            refusals("nothing is counted with " + fault, x);
            due("no letters are left", x.letter('m'), 1);
        }
    }

    // The KINDS.

    private static void tillItIsOfSort1() {
        stops("lt9;", 1, 0, 1, 1);
        stops("lt9;", 0, 1, 0, 0);
        stops("lt9;", 1, 1, 1, 1);
        stops("lt1;", 1, 1, 0, 0);
        stops("lt1;", 10, 10, 0, 0);
        TillOneOfSort x = told("lt9;m3;");
        // 1; 01; 001, 000
        size(x, 1, 1, 2);
        size(x, 2, 1, 4);
        size(x, 3, 1, 4);
    }

    private static void countFigureOrMore() {
        stops("lc3;", 2, 9, 0, 0);
        stops("lc3;", 3, 9, 0, 1);
        stops("lc3;", 4, 9, 0, 1);
        stops("lc9;", 8, 0, 8, 0);
        stops("lc9;", 9, 0, 9, 1);
        stops("lc9;", 10, 0, 10, 1);
        stops("lc1;", 0, 1, 0, 0);
        stops("lc1;", 1, 1, 0, 1);
        TillOneOfSort x = told("lc2;m3;");
        // 11; all others three
        size(x, 1, 0, 1);
        size(x, 2, 1, 4);
        size(x, 3, 3, 4);
    }

    private static void aheadJustFigureMore() {
        stops("la2;", 2, 1, 0, 0);
        stops("la2;", 3, 1, 0, 1);
        stops("la2;", 4, 1, 0, 0);
        stops("la2;", 1, 3, 0, 0);
        stops("la9;", 9, 0, 9, 1);
        stops("la9;", 10, 0, 10, 0);
        stops("la9;", 10, 1, 1, 1);
        stops("la1;", 1, 1, 1, 0);
        TillOneOfSort x = told("la1;m3;");
        // 1; 011; 010, 001, 000
        size(x, 1, 1, 2);
        size(x, 2, 0, 1);
        size(x, 3, 1, 2);
    }

    private static void evenAsManyOfEachSort() {
        stops("le9;", 1, 1, 1, 1);
        stops("le9;", 2, 1, 1, 0);
        stops("le9;", 1, 2, 1, 0);
        stops("le9;", 10, 10, 1, 1);
        stops("le1;", 2, 1, 0, 0);
        TillOneOfSort x = told("le9;m4;");
        // 10, 01; 1100, 0011; all others four
        size(x, 1, 0, 1);
        size(x, 2, 1, 2);
        size(x, 3, 0, 1);
        size(x, 4, 1, 2);
    }

    private static void runTheLatestFigure() {
        stops("lr3;", 9, 1, 2, 0);
        stops("lr3;", 9, 1, 3, 1);
        stops("lr3;", 9, 1, 4, 1);
        stops("lr3;", 9, 1, 0, 0);
        stops("lr9;", 9, 0, 8, 0);
        stops("lr9;", 9, 0, 9, 1);
        stops("lr9;", 10, 0, 10, 1);
        stops("lr1;", 1, 1, 0, 0);
        stops("lr1;", 1, 1, 1, 1);
        TillOneOfSort x = told("lr2;m4;");
        // 11; 011; all others four
        size(x, 1, 0, 1);
        size(x, 2, 1, 4);
        size(x, 3, 1, 8);
        size(x, 4, 5, 8);
    }

    private static void bothOneOfEachSort() {
        stops("lb9;", 1, 0, 1, 0);
        stops("lb9;", 0, 1, 0, 0);
        stops("lb9;", 1, 1, 0, 1);
        stops("lb9;", 1, 1, 1, 1);
        stops("lb9;", 2, 1, 0, 1);
        stops("lb9;", 1, 2, 1, 1);
        stops("lb1;", 10, 0, 10, 0);
        stops("lb1;", 0, 10, 0, 0);
        stops("lb1;", 10, 10, 3, 1);
        TillOneOfSort x = told("lb9;m4;");
        // 10, 01; 110, 001; all others four
        size(x, 1, 0, 1);
        size(x, 2, 1, 2);
        size(x, 3, 1, 4);
        size(x, 4, 1, 4);
    }

    /** The last child but one of ten is the last that a figure of nine can stop. */
    private static void aFigureOfNine() {
        for (String law : new String[] {"lc9;", "la9;", "lr9;"}) {
            TillOneOfSort x = told(law + "m10;");
            size(x, 8, 0, 1);
            size(x, 9, 1, 512);
            size(x, 10, 511, 512);
        }
    }

    // "All stop at MOST."

    private static void allKindsStopAtMost() {
        for (char kind : KINDS.toCharArray()) {
            // Ten of SORT 0 are stopped by no KIND itself.
            for (int most = 1; most <= 9; most++) {
                String land = "l" + kind + "1;m" + most + ";";
                due(land, behind(land, times("0", most - 1)).judge(), -9);
                due(land, behind(land, times("0", most)).judge(), 20);
                due(land, behind(land, times("0", most + 1)).judge(), most - 1);
                gone(land, times("0", most - 1), 1, 1);
                gone(land, times("0", most), 0, 1);
                TillOneOfSort x = told(land + "f" + times("0", most) + ";");
                due(land + " fits", x.fits(0), 63);
                due(land + " cheats", x.cheats(), 0);
                TillOneOfSort y = told(land + "f" + times("0", most + 1) + ";");
                due(land + " fits one more", y.fits(0), 0);
                due(land + " could have one more", y.fits(1), 0);
                due(land + " one more cheats", y.cheats(), 1);
            }
            String ten = "l" + kind + "1;m10;";
            due(ten, behind(ten, times("0", 9)).judge(), -9);
            due(ten, behind(ten, times("0", 10)).judge(), 20);
            gone(ten, times("0", 9), 1, 1);
            gone(ten, times("0", 10), 0, 1);
        }
    }

    private static void theLawMayStopJustAtMost() {
        due("both at once", behind("lt1;m3;", "001").judge(), 20);
        due("both at once, one more", behind("lt1;m3;", "0010").judge(), 2);
        due("a law that would stop later", behind("lc3;m3;", "0111").judge(), 2);
        gone("lt1;m3;", "00", 1, 1);
    }

    // "An object is used for at most 512 calls after it has been made."

    private static void theLastOf512Calls() {
        TillOneOfSort x = new TillOneOfSort();
        for (int call = 1; call <= 511; call++) {
            due("call " + call, x.on(), -3);
        }
        due("call 512", x.count(13), 511);
    }

    public static void main(String[] args) throws ReflectiveOperationException {
        runAll(TermsBoundariesTest.class);
    }
}
