import java.math.BigInteger;

/** The boundaries that the document names in its part II, a test for each sentence that names one. */
public final class AnswersBoundariesTest extends Checks {
    private static final String KINDS = "tcaerb";

    private static void mean(TillOneOfSort x, int what, long above, long below) {
        fraction("mean(" + what + ")", x.mean(what, 0), x.mean(what, 1), above, below);
    }

    private static void more(TillOneOfSort x, int what, long above, long below) {
        fraction("more(" + what + ")", x.more(what, 0), x.more(what, 1), above, below);
    }

    private static void size(TillOneOfSort x, int n, long above, long below) {
        fraction("size(" + n + ")", x.size(n, 0), x.size(n, 1), above, below);
    }

    private static void met(TillOneOfSort x, int what, long above, long below) {
        fraction("met(" + what + ")", x.met(what, 0), x.met(what, 1), above, below);
    }

    private static void says(TillOneOfSort x, int sort, int a, int b, long above, long below) {
        String what = "says(" + sort + ", " + a + ", " + b + ", 0)";
        fraction(what, x.says(sort, a, b, 0, 0), x.says(sort, a, b, 0, 1), above, below);
    }

    private static void eldest(TillOneOfSort x, int sort, int a, int b, long above, long below) {
        String what = "says(" + sort + ", " + a + ", " + b + ", 1)";
        fraction(what, x.says(sort, a, b, 1, 0), x.says(sort, a, b, 1, 1), above, below);
    }

    private static void trial(TillOneOfSort x, int n, int d, long above, long below) {
        fraction("trial(" + n + ", " + d + ")", x.trial(n, d, 0), x.trial(n, d, 1), above, below);
    }

    private static void gone(String land, String row, long above, long below) {
        TillOneOfSort x = behind(land, row);
        fraction(land + " gone behind " + row, x.gone(0), x.gone(1), above, below);
        due("the ROW stays", x.count(6), row.length());
    }

    private static void judged(String land, String row, int want) {
        TillOneOfSort x = behind(land, row);
        due(land + " judges " + row, x.judge(), want);
        due(land + " has no row behind " + row, x.count(6), 0);
    }

    private static void leastTerms(String what, long above, long below) {
        holds(what + ": " + above + " by " + below, above >= 0 && below >= 1
            && BigInteger.valueOf(above).gcd(BigInteger.valueOf(below)).equals(BigInteger.ONE));
    }

    // "All by FRACTIONS in least terms (0 by 1), of all FAMILIES there can be."

    private static void fractionsInLeastTerms() {
        for (char kind : KINDS.toCharArray()) {
            for (String rest : new String[] {"1;m1;c1;", "1;m10;c11;n+5;", "2;m10;c6;", "9;m10;c7;n-1;", "3;m9;c5;n-3;"}) {
                String land = "l" + kind + rest;
                TillOneOfSort x = told(land);
                for (int what = 0; what <= 2; what++) {
                    leastTerms(land + " mean", x.mean(what, 0), x.mean(what, 1));
                    leastTerms(land + " more", x.more(what, 0), x.more(what, 1));
                }
                leastTerms(land + " share", x.share(0), x.share(1));
                leastTerms(land + " all", x.all(0), x.all(1));
                leastTerms(land + " met", x.met(0, 0), x.met(0, 1));
                leastTerms(land + " met", x.met(1, 0), x.met(1, 1));
                leastTerms(land + " gone", x.gone(0), x.gone(1));
                for (int n = 1; n <= 10; n++) {
                    leastTerms(land + " size", x.size(n, 0), x.size(n, 1));
                    leastTerms(land + " trial", x.trial(n, 1, 0), x.trial(n, 1, 1));
                    leastTerms(land + " says", x.says(0, n - 1, 1, 0, 0), x.says(0, n - 1, 1, 0, 1));
                    leastTerms(land + " eldest", x.says(1, n - 1, 1, 1, 0), x.says(1, n - 1, 1, 1, 1));
                }
            }
        }
    }

    private static void nothingIsZeroByOne() {
        // behind a child of SORT 1 none of SORT 1: 10, 01, 00
        TillOneOfSort fewer = told("le1;m2;c5;n-5;");
        more(fewer, 0, 0, 1);
        met(fewer, 0, 0, 1);
        met(fewer, 1, 0, 1);
        more(told("la1;m3;"), 1, 0, 1);
        // behind a child of SORT 0 one of SORT 1 for sure: 11, 10, 01
        more(told("le1;m2;c7;n-5;"), 2, 0, 1);
        size(told("le1;"), 1, 0, 1);
        says(told("lt1;"), 1, 1, 0, 0, 1);
        eldest(told("lt1;"), 1, 0, 1, 0, 1);
        trial(new TillOneOfSort(), 1, 2, 0, 1);
        gone("lt1;", "1", 0, 1);
    }

    private static void allIsOneByOne() {
        TillOneOfSort x = told("m1;");
        mean(x, 0, 1, 1);
        size(x, 1, 1, 1);
        eldest(x, 1, 0, 0, 1, 1);
        eldest(x, 0, 0, 0, 1, 1);
        size(told("le1;m2;"), 2, 1, 1);
        gone("m1;", "", 1, 1);
        gone("lt1;c11;n-1;", "0", 1, 1);
    }

    // "MEAN: children of a FAMILY in the mean; of SORT 1; of SORT 0."

    private static void meanOfTheSmallestAndTheLargest() {
        TillOneOfSort x = told("m1;c11;");
        mean(x, 0, 1, 1);
        mean(x, 1, 11, 12);
        mean(x, 2, 1, 12);
        TillOneOfSort y = told("lc9;m10;");
        // nine of SORT 1 first 1/512: nine children, else ten
        mean(y, 0, 5119, 512);
        mean(y, 1, 5119, 1024);
        mean(y, 2, 5119, 1024);
    }

    // "SHARE: the mean of what part of a FAMILY's children is of SORT 1."

    private static void shareOfTheSmallestAndTheLargest() {
        TillOneOfSort x = told("m1;c11;");
        fraction("one child", x.share(0), x.share(1), 11, 12);
        TillOneOfSort y = told("lc9;m10;c11;");
        // 11/12, and behind nine of SORT 1 (11/12 to the power of 9) 1 for 119/120
        fraction("ten children", y.share(0), y.share(1), 569933786411L, 619173642240L);
        TillOneOfSort z = told("m3;");
        // 1 1/2 * 1, 01 1/4 * 1/2, 001 1/8 * 1/3
        fraction("three at most", z.share(0), z.share(1), 2, 3);
    }

    // "ALL: what part of all children of all FAMILIES is of SORT 1 (MEAN of SORT 1 by MEAN)."

    private static void allOfTheSmallestAndTheLargest() {
        TillOneOfSort x = told("m1;c1;");
        fraction("one child", x.all(0), x.all(1), 1, 12);
        TillOneOfSort y = told("lc9;m10;c11;");
        fraction("ten at most", y.all(0), y.all(1), 11, 12);
        TillOneOfSort z = told("m3;n+1;");
        // 1 1/2, 01 5/24, 001 35/288, 000 49/288: ones 239/288, children 1/2 + 5/12 + 252/288
        fraction("not the mean of parts", z.all(0), z.all(1), 239, 516);
    }

    // "MORE: how likely a FAMILY has more of SORT 1 than of SORT 0; as many; fewer."

    private static void oneMoreAsManyOneFewer() {
        TillOneOfSort one = told("m1;c4;");
        more(one, 0, 1, 3);
        more(one, 1, 0, 1);
        more(one, 2, 2, 3);
        TillOneOfSort three = told("lc9;m3;");
        more(three, 0, 1, 2);
        more(three, 1, 0, 1);
        more(three, 2, 1, 2);
        TillOneOfSort two = told("lc9;m2;c4;");
        more(two, 0, 1, 9);
        more(two, 1, 4, 9);
        more(two, 2, 4, 9);
    }

    // "SIZE: how likely it has n children."

    private static void sizeFromOneToTen() {
        TillOneOfSort x = told("m10;");
        due("0", x.size(0, 0), FOUR + 4);
        size(x, 1, 1, 2);
        size(x, 9, 1, 512);
        size(x, 10, 1, 512);
        due("11", x.size(11, 0), FOUR + 6);
        refusals("size", x, 0, 0, 0, 1, 0, 1);
    }

    // "MET: one meets a child of a FAMILY (each child of the land as likely): how likely its FAMILY has more of SORT 1;
    // how likely it is of SORT 1 and has a sibling (of the same FAMILY) of SORT 1."

    private static void metIsNoSiblingOfItself() {
        TillOneOfSort one = told("m1;c11;");
        met(one, 0, 11, 12);
        met(one, 1, 0, 1);
        TillOneOfSort two = told("lc9;m2;c8;");
        // 11 4/9; 10 and 01 4/9 together
        met(two, 0, 4, 9);
        met(two, 1, 4, 9);
    }

    private static void metEachChildAsLikely() {
        TillOneOfSort x = told("lb9;m3;");
        // 10, 01 1/4 each; 110, 111, 001, 000 1/8 each: children 5/2
        // more of SORT 1: the three children of 110 and those of 111
        met(x, 0, 3, 10);
        // of SORT 1 with such a sibling: two of 110, three of 111
        met(x, 1, 1, 4);
    }

    // "SAYS: I have a siblings of SORT 1 and b of SORT 0 (0 .. 9 each)."

    private static void saysFromNoSiblingToNine() {
        TillOneOfSort x = told("m1;c4;");
        says(x, 1, 0, 0, 1, 3);
        says(x, 0, 0, 0, 2, 3);
        TillOneOfSort ten = told("le1;m10;");
        eldest(ten, 1, 9, 0, 1, 10);
        eldest(ten, 0, 0, 9, 1, 10);
        says(ten, 1, 9, 9, 0, 1);
        eldest(ten, 0, 9, 9, 0, 1);
        TillOneOfSort nine = told("lc9;m10;");
        // children 5119/512; 111111111 1/512; nine of SORT 1 with a 0 that is not the last 9/1024
        says(nine, 1, 8, 0, 9, 5119);
        eldest(nine, 1, 8, 0, 1, 9);
        says(nine, 1, 9, 0, 0, 1);
        says(nine, 0, 9, 0, 9, 10238);
        eldest(nine, 0, 9, 0, 1, 9);
        says(nine, 0, 0, 9, 5, 5119);
        says(nine, 1, 0, 9, 5, 5119);
        eldest(nine, 1, 0, 9, 1, 10);
    }

    private static void saysTenOrFewerThanNone() {
        TillOneOfSort x = told("m10;");
        due("10 of SORT 1", x.says(1, 10, 0, 0, 0), FOUR + 6);
        due("10 of SORT 0", x.says(1, 0, 10, 0, 0), FOUR + 6);
        due("-1 of SORT 1", x.says(1, -1, 0, 0, 0), FOUR + 4);
        due("-1 of SORT 0", x.says(1, 0, -1, 0, 0), FOUR + 4);
        due("-1 and 10", x.says(2, 10, -1, 2, 2), FOUR + 4);
        due("10 and others", x.says(2, 0, 10, 2, 2), FOUR + 6);
        refusals("says", x, 0, 0, 0, 3, 0, 3);
    }

    /** Nobody says so: then nobody is the eldest. */
    private static void theEldestOfNobody() {
        TillOneOfSort x = new TillOneOfSort();
        says(x, 1, 2, 0, 0, 1);
        eldest(x, 1, 2, 0, 0, 1);
        says(x, 0, 1, 1, 4, 31);
        eldest(x, 0, 1, 1, 1, 2);
        eldest(x, 1, 0, 1, 0, 1);
        eldest(x, 0, 1, 0, 1, 1);
    }

    // "TRIAL: ... behind some child of the first n (1 .. 10), there are d more (1 .. 9) of SORT 1 than of SORT 0."

    private static void trialFromOneToTenChildren() {
        TillOneOfSort x = new TillOneOfSort();
        due("none", x.trial(0, 1, 0), FOUR + 4);
        trial(x, 1, 1, 1, 2);
        // never ahead: as many ways as 5 of 10, as 4 of 9
        trial(x, 9, 1, 193, 256);
        trial(x, 10, 1, 193, 256);
        due("eleven", x.trial(11, 1, 0), FOUR + 6);
        refusals("trial", x, 0, 0, 0, 1, 0, 1);
    }

    private static void trialFromOneToNineMore() {
        TillOneOfSort x = new TillOneOfSort();
        due("none more", x.trial(10, 0, 0), FOUR + 4);
        trial(x, 8, 9, 0, 1);
        trial(x, 9, 9, 1, 512);
        trial(x, 10, 9, 1, 512);
        trial(x, 10, 8, 3, 256);
        due("ten more", x.trial(10, 10, 0), FOUR + 6);
        refusals("trial", x, 0, 0, 0, 1, 0, 1);
    }

    private static void trialBehindTheLastOfTheFirst() {
        TillOneOfSort x = new TillOneOfSort();
        trial(x, 1, 2, 0, 1);
        trial(x, 2, 2, 1, 4);
        trial(x, 3, 2, 1, 4);
        trial(x, 4, 2, 3, 8);
        // it stays good, though a child of SORT 0 follows
        trial(x, 2, 1, 1, 2);
        trial(x, 3, 1, 5, 8);
    }

    private static void trialWithoutLaw() {
        for (char kind : KINDS.toCharArray()) {
            TillOneOfSort x = told("l" + kind + "1;m1;");
            trial(x, 10, 1, 193, 256);
            trial(x, 9, 9, 1, 512);
            size(x, 1, 1, 1);
        }
        TillOneOfSort y = told("c11;n+5;m1;");
        trial(y, 9, 9, 11, 12);
        // 1 11/12; 011 1/12 * 6/12 * 12/12
        trial(y, 3, 1, 23, 24);
    }

    // "GONE: a FAMILY has had children as a ROW of SORTS tells (10 at most): how likely the next child would be its
    // last (0, if the LAW has stopped it by then)."

    private static void goneBehindNoneAndBehindTen() {
        gone("lt1;m10;c5;", "", 5, 12);
        gone("lc2;m10;c5;", "", 0, 1);
        gone("lt1;m10;c5;", "000000000", 1, 1);
        gone("lt1;m10;c5;", "0000000000", 0, 1);
        gone("lr3;m10;c5;", "0110110110", 0, 1);
    }

    private static void goneThoughTheLawHasStoppedIt() {
        gone("lt1;c4;", "0", 1, 3);
        gone("lt1;c4;", "01", 0, 1);
        gone("lt1;c4;", "010", 0, 1);
        gone("la1;c4;", "0110", 0, 1);
        gone("le1;c4;", "010", 0, 1);
        gone("lr2;c4;", "01101", 0, 1);
        gone("lb1;c4;", "0101", 0, 1);
        gone("lc1;m3;c4;", "00", 1, 1);
        gone("lc1;m3;c4;", "000", 0, 1);
    }

    private static void goneByEitherSort() {
        gone("le1;c4;", "0", 1, 3);
        gone("le1;c4;", "1", 2, 3);
        gone("lb1;c4;", "111", 2, 3);
        gone("lb1;c4;", "000", 1, 3);
        gone("la1;c4;", "0", 0, 1);
        gone("la1;c4;", "01", 1, 3);
        gone("la1;c4;", "010", 0, 1);
    }

    private static void goneByTheRunBehindTheRow() {
        gone("lr1;m9;c4;", "", 1, 3);
        gone("lr2;m9;c4;", "", 0, 1);
        gone("lr2;m9;c4;", "10", 0, 1);
        gone("lr2;m9;c4;", "101", 1, 3);
        gone("lr3;m9;c4;", "1", 0, 1);
        gone("lr3;m9;c4;", "11", 1, 3);
        gone("lr3;m9;c4;", "1101", 0, 1);
        gone("lr3;m9;c4;", "11011", 1, 3);
    }

    // "SHIFT: the KIND (FIGURE as it is) by which ALL is greatest, of several the first in KINDS; LEAST: by which it
    // is least."

    private static void shift(String land, int greatest, int least) {
        TillOneOfSort x = told(land);
        due(land + " shifts most", x.shift(0), greatest);
        due(land + " shifts least", x.shift(1), least);
    }

    private static void ofSeveralTheFirst() {
        shift("m1;n+5;", 0, 0);
        shift("c3;", 0, 0);
        shift("m10;c11;lb4;", 0, 0);
        // t, c, a, r 13/36; e, b 1/2
        shift("m2;n+5;", 3, 0);
        // t, c, a, r 23/36; e, b 1/2
        shift("m2;n-5;", 0, 3);
    }

    private static void figureAsItIs() {
        // t 13/36; all others do not stop ahead of the second child
        shift("lt2;m2;n+5;", 1, 0);
        shift("lt2;m2;n-5;", 0, 1);
        shift("lb2;m2;n-5;", 0, 1);
    }

    private static void everyKindCanBeIt() {
        // t, c, r 163/834, a 9/44, e 631/2952, b 593/2814
        shift("m4;c3;n+1;", 3, 0);
        // t, c, r 1/45, e 259/10008, b 259/9978
        shift("m4;c1;n+1;", 5, 0);
        // t, c, r 4/5, a 3/4, e 11/18, b 7/12
        shift("m4;c9;n-5;", 0, 5);
        // a 1805/8544 is greatest, t 1103/5754 is least
        shift("lt3;m5;c3;n+1;", 2, 0);
        // t, c, r 37/114, a 37/136, e, b 37/118
        shift("m3;c1;n-5;", 0, 2);
        // r 221965/496212, a 296201/662124
        shift("lt3;m6;c5;n-4;", 0, 4);
    }

    // "FITS: KINDS (bits; FIGURE as it is) of which all FAMILIES SEEN are just where they stop; COULD: KINDS by which
    // none of them stopped ahead of its end (it may not be at an end yet)."

    private static void fits(String land, int fits, int could) {
        TillOneOfSort x = told(land);
        due(land + " fits", x.fits(0), fits);
        due(land + " could", x.fits(1), could);
    }

    private static void fitsNoneSeen() {
        fits("m1;", 63, 63);
        fits("m10;lb9;", 63, 63);
    }

    private static void fitsJustWhereItStops() {
        int t = 1;
        int c = 2;
        int a = 4;
        int e = 8;
        int r = 16;
        int b = 32;
        fits("m9;f0;", 0, 63);
        fits("m9;f1;", t + c + a + r, 63);
        fits("m9;f01;", t + c + e + r + b, 63);
        fits("m9;f10;", e + b, e + b);
        fits("m9;f011;", a, a);
        fits("m9;f0110;", 0, 0);
        fits("m9;lt2;f0011;", c + e + r, c + a + e + r);
        fits("m9;lt2;f011;", c + r, c + a + r);
        fits("m9;lt2;f0111;", a, a);
        fits("m1;f0;", 63, 63);
        fits("m1;f1;", 63, 63);
        fits("m1;f11;", 0, 0);
    }

    private static void fitsAllOfThem() {
        fits("m9;f01;f1;", 1 + 2 + 16, 63);
        fits("m9;f1;f01;f0;", 0, 63);
        fits("m9;f1;f01;f10;", 0, 8 + 32);
        fits("m9;f1;f1;f1;f1;f1;f1;f1;f1;", 1 + 2 + 4 + 16, 63);
        fits("m9;f1;f1;f1;f1;f1;f1;f1;f11;", 0, 8 + 32);
        fits("m9;f11;f1;f1;f1;f1;f1;f1;f1;", 0, 8 + 32);
    }

    // "JUDGED: the ROW: the first child behind which the LAW stops, though one more follows; 20, if it is just at an
    // end; -9 it may go on."

    private static void judgedFromTheFirstChildOn() {
        judged("lt1;m10;", "10", 0);
        judged("lt1;m10;", "11", 0);
        judged("lt1;m10;", "0101", 1);
        judged("lt1;m10;", "0000000011", 8);
        judged("lt1;m10;", "1111111111", 0);
        judged("m1;", "00", 0);
        judged("lc9;m10;", "1111111110", 8);
        judged("m9;", "0000000000", 8);
    }

    private static void judgedJustAtAnEnd() {
        judged("lt1;m10;", "1", 20);
        judged("lt1;m10;", "0000000001", 20);
        judged("lt1;m10;", "0000000000", 20);
        judged("m1;", "0", 20);
        judged("lc9;m10;", "111111111", 20);
        judged("lb1;m10;", "0000000001", 20);
    }

    private static void judgedItMayGoOn() {
        judged("lt1;m10;", "", -9);
        judged("m1;", "", -9);
        judged("lt1;m10;", "0", -9);
        judged("lt1;m10;", "000000000", -9);
        judged("le1;m10;", "011", 1);
        judged("le1;m10;", "111111111", -9);
        judged("lc9;m10;", "11111111", -9);
    }

    // "CHEATS: how many FAMILIES SEEN had a child more behind which the LAW stops."

    private static void cheatsFromNoneToEight() {
        due("none seen", new TillOneOfSort().cheats(), 0);
        due("none", told("f1;f01;f0;f00000;").cheats(), 0);
        due("the last", told("f1;f01;f10;").cheats(), 1);
        due("the first", told("f10;f01;f0;").cheats(), 1);
        due("eight", told("f10;f11;f10;f11;f10;f11;f10;f11;").cheats(), 8);
        due("eight of ten children", told("lc9;m10;f1111111110;f1111111111;").cheats(), 2);
        due("by MOST", told("m4;f0000;f00000;f000;").cheats(), 1);
        due("once a FAMILY", told("f1111111111;").cheats(), 1);
    }

    // "LOTS with a seed z: n FAMILIES (1 .. 40)."

    private static void lotsFromOneToFortyFamilies() {
        TillOneOfSort x = new TillOneOfSort();
        due("none", x.lots(0, 0, 0), -4);
        due("one, zeros", x.lots(1, 0, 0), 4);
        due("one, ones", x.lots(1, 0, 1), 1);
        due("forty, zeros", x.lots(40, 0, 0), 41);
        due("forty, ones", x.lots(40, 0, 1), 40);
        due("forty-one", x.lots(41, 0, 0), -6);
        refusals("lots", x, 0, 0, 0, 1, 0, 1);
    }

    private static void theSeedIsAsItWasForEveryCall() {
        TillOneOfSort x = new TillOneOfSort();
        for (int times = 0; times < 3; times++) {
            due("from 3 on", x.lots(3, 3, 0), 3);
            due("from 3 on", x.lots(3, 3, 1), 3);
        }
    }

    // "child by child a DRAW below 12 is less than its 12ths: SORT 1"

    private static void aDrawIsLessThanItsTwelfths() {
        // z, the first draw below 12 from it on
        int[][] first = {{0, 11}, {13, 10}, {1, 9}, {2, 7}, {15, 6}, {3, 5}, {16, 4}, {4, 3}, {17, 2}, {5, 1}, {18, 0}};
        for (int[] d : first) {
            for (int chance = 1; chance <= 11; chance++) {
                TillOneOfSort x = told("m1;c" + chance + ";");
                String what = "from " + d[0] + " with chance " + chance;
                due(what, x.lots(1, d[0], 1), d[1] < chance ? 1 : 0);
                due(what, x.lots(1, d[0], 0), d[1] < chance ? 0 : 1);
            }
        }
    }

    private static void lots(String law, int z, int ones, int zeros) {
        TillOneOfSort x = told(law + "m10;");
        due(law + " ones from " + z, x.lots(1, z, 1), ones);
        due(law + " zeros from " + z, x.lots(1, z, 0), zeros);
    }

    /** From 3 on even chances make 1100011010, from 9 on 1000101110. */
    private static void lotsStopByEachKind() {
        lots("lt1;", 3, 1, 0);
        lots("lc2;", 3, 2, 0);
        lots("lc3;", 3, 3, 3);
        lots("la2;", 3, 2, 0);
        lots("le1;", 3, 2, 2);
        lots("lr2;", 3, 2, 0);
        lots("lr3;", 3, 5, 5);
        lots("lb1;", 3, 2, 1);
        lots("lc2;", 9, 2, 3);
        lots("lc3;", 9, 3, 4);
        lots("la1;", 9, 1, 0);
        lots("la2;", 9, 5, 5);
        lots("le1;", 9, 1, 1);
        lots("lr2;", 9, 4, 4);
        lots("lr3;", 9, 5, 4);
        lots("lb1;", 9, 1, 1);
    }

    // "A DRAW below m: z becomes z times 1664525 and 1013904223 (an int); (z without its sign's bit by 256, cut) modulo m."

    private static void theSeedWrapsAround() {
        // 0: 11, 9, 6, 11, 1, 2, the second from 1196435762 on, the third from -775096599 on
        TillOneOfSort x = told("lc9;m6;");
        due("two of six", x.lots(1, 0, 1), 2);
        x.set(1, 7);
        due("three of six", x.lots(1, 0, 1), 3);
        x.set(1, 10);
        due("four of six", x.lots(1, 0, 1), 4);
        // 2147483647: 1, 8, 8, 3, 4, 11
        due("five of six", x.lots(1, MAX, 1), 5);
        x.set(1, 8);
        due("three of six again", x.lots(1, MAX, 1), 3);
        // -1: the same, but from other seeds on
        due("from -1 on", x.lots(1, -1, 1), 3);
        // -100: 2, 3, 0, 2, 4, 2
        x.set(1, 4);
        due("from -100 on", x.lots(1, -100, 1), 5);
    }

    /** The sign's bit of a seed stays in the sign's bit of the next: it changes no draw. */
    private static void withoutTheSignsBit() {
        TillOneOfSort x = told("lr2;m9;c5;n+2;");
        for (int z : new int[] {0, 1, 7, 12345, 2147483647, 1196435762}) {
            due("from " + z, x.lots(40, z | MIN, 1), x.lots(40, z & MAX, 1));
            due("from " + z, x.lots(40, z | MIN, 0), x.lots(40, z & MAX, 0));
        }
        TillOneOfSort y = new TillOneOfSort();
        due("the least seed, zeros", y.lots(40, MIN, 0), 41);
        due("the least seed, ones", y.lots(40, MIN, 1), 40);
        due("the greatest seed, zeros", y.lots(40, MAX, 0), 56);
        due("the greatest seed, ones", y.lots(40, MAX, 1), 39);
    }

    // "THE IMAGE: all that is told, FAMILIES SEEN (not the ROW, letters, REFUSALS); ON from it all is as then."

    private static void theImageKeepsAllThatIsTold() {
        TillOneOfSort x = told("lr9;m10;c11;n+5;f01;f1111111111;");
        due("image", x.image(), 2);
        tell(x, "lt1;m1;c1;n-5;f0;f1;f0;f1;f0;f1;");
        state("told another", x, 1, 1, 0, 0, 1, 8);
        due("on", x.on(), 2);
        state("as then", x, 10, 11, 10, 4, 9, 2);
        due("the first", x.seen(0, 1), 2);
        due("the second", x.seen(1, 1), 1023);
        due("the second's children", x.seen(1, 0), 10);
        due("no third", x.seen(2, 0), -9);
    }

    /** Numbers told by calls, too, and one by one. */
    private static void theImageKeepsEachOfThem() {
        TillOneOfSort x = new TillOneOfSort();
        x.image();
        x.set(0, 7);
        x.on();
        state("MOST", x, 5, 6, 5, 0, 1, 0);
        x.set(1, 7);
        x.on();
        state("CHANCE", x, 5, 6, 5, 0, 1, 0);
        x.set(2, 7);
        x.on();
        state("LEAN", x, 5, 6, 5, 0, 1, 0);
        x.law(3, 1);
        x.on();
        state("KIND", x, 5, 6, 5, 0, 1, 0);
        x.law(0, 3);
        x.on();
        state("FIGURE", x, 5, 6, 5, 0, 1, 0);
        tell(x, "f1;");
        x.on();
        state("FAMILIES", x, 5, 6, 5, 0, 1, 0);
        mean(x, 0, 31, 16);
    }

    private static void theImageDoesNotKeepTheRow() {
        TillOneOfSort x = behind("m9;", "01");
        x.image();
        x.row(1);
        x.on();
        due("the ROW goes on", x.count(6), 3);
        due("it is 011", x.judge(), 1);
        x.on();
        due("none is none", x.count(6), 0);
    }

    private static void theImageDoesNotKeepLetters() {
        TillOneOfSort x = new TillOneOfSort();
        letters(x, "m");
        x.image();
        letters(x, "7;");
        x.on();
        due("letters go on", x.count(7), 3);
        due("they are m7;", x.land(), 1);
        due("MOST", x.count(0), 7);
        x.on();
        due("no letters are none", x.count(7), 0);
    }

    private static void theImageDoesNotKeepRefusals() {
        TillOneOfSort x = new TillOneOfSort();
        x.on();
        x.letter(-1);
        x.image();
        x.letter(256);
        x.letter(-1);
        x.row(2);
        x.on();
        refusals("all of them", x, 0, 1, 1, 2, 0, 1);
    }

    /** Neither what is told later nor going on from it changes an image. */
    private static void theImageStaysAsItWas() {
        TillOneOfSort x = told("lb2;m3;f01;");
        x.image();
        for (int times = 0; times < 3; times++) {
            tell(x, "m9;f111;f0;");
            due("three", x.count(5), 3);
            due("on", x.on(), 1);
            state("as then", x, 3, 6, 5, 5, 2, 1);
            due("the family", x.seen(0, 1), 2);
        }
    }

    private static void aLaterImageTakesItsPlace() {
        TillOneOfSort x = told("m3;f01;");
        due("the first", x.image(), 1);
        tell(x, "m4;f10;");
        due("the later", x.image(), 2);
        tell(x, "m5;f11;");
        due("on", x.on(), 2);
        state("as at the later", x, 4, 6, 5, 0, 1, 2);
    }

    private static void anImageOfNoneAndOfEight() {
        TillOneOfSort x = new TillOneOfSort();
        due("none", x.image(), 0);
        tell(x, "f1;f1;f1;f1;f1;f1;f1;f0;");
        due("on from none", x.on(), 0);
        due("none seen", x.seen(0, 0), -9);
        tell(x, "f1;f1;f1;f1;f1;f1;f1;f0;");
        due("eight", x.image(), 8);
        due("on from eight", x.on(), 8);
        due("the eighth", x.seen(7, 1), 0);
        due("the eighth's children", x.seen(7, 0), 1);
        due("no room", tell(x, "f1;"), -2000);
    }

    // "REFUSALS: ... Of longs 4000000000000000000 less them (-1 as 4000000000000000001)."

    private static void howALongAnswersRefusals() {
        TillOneOfSort x = new TillOneOfSort();
        due("-2", x.mean(3, 0), 4000000000000000002L);
        due("-4", x.trial(0, 1, 0), 4000000000000000004L);
        due("-6", x.trial(11, 1, 0), 4000000000000000006L);
        refusals("of longs", x, 0, 1, 0, 1, 0, 1);
    }

    private static void noCallTells1Or5() {
        TillOneOfSort x = new TillOneOfSort();
        x.on();
        x.row(2);
        x.letter(-1);
        x.letter(256);
        due("-1", x.count(11), 0);
        due("-5", x.count(15), 0);
    }

    public static void main(String[] args) throws ReflectiveOperationException {
        runAll(AnswersBoundariesTest.class);
    }
}
