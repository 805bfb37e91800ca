/** The boundaries that the document names under each promise's heading, a test for each sentence that names one. */
public final class PromiseBoundariesTest extends Checks {
    private static final long OTHER = FOUR + 2;

    /** An object full of letters, of families and of a row. */
    private static TillOneOfSort full() {
        TillOneOfSort x = told("f1;f0;f1;f0;f1;f0;f1;f0;");
        rowOf(x, "0101010101");
        letters(x, "m3;".repeat(21) + "x");
        return x;
    }

    // Promise 1: "TILL, five children at most, even chances."

    private static void p01NothingIsToldOfANewObject() {
        TillOneOfSort x = new TillOneOfSort();
        state("new", x, 5, 6, 5, 0, 1, 0, 0, 0);
        refusals("new", x);
        due("no FAMILY", x.seen(0, 0), -9);
        due("no letters", x.land(), -1000);
        due("no ROW", x.judge(), -9);
        due("no image", x.on(), -3);
    }

    private static void p01EachObjectIsItsOwn() {
        full().image();
        p01NothingIsToldOfANewObject();
    }

    // Promise 2: "A letter (0 .. 255) comes: how many there are. -4; -6 (255; 64, too)."

    private static void p02Letter0IsTaken() {
        TillOneOfSort x = new TillOneOfSort();
        due("-1", x.letter(-1), -4);
        due("0", x.letter(0), 1);
        due("the least int", x.letter(MIN), -4);
        refusals("two below", x, 0, 0, 0, 2);
        due("one letter", x.count(7), 1);
    }

    private static void p02Letter255IsTaken() {
        TillOneOfSort x = new TillOneOfSort();
        due("256", x.letter(256), -6);
        due("255", x.letter(255), 1);
        due("the greatest int", x.letter(MAX), -6);
        refusals("two above", x, 0, 0, 0, 0, 0, 2);
        due("one letter", x.count(7), 1);
    }

    private static void p02TheSixtyFourthIsTaken() {
        TillOneOfSort x = new TillOneOfSort();
        letters(x, "m3;".repeat(21));
        due("the 64th", x.letter('f'), 64);
        due("the 65th", x.letter('f'), -6);
        due("the 65th again", x.letter(255), -6);
        refusals("two without room", x, 0, 0, 0, 0, 0, 2);
        due("letters", x.count(7), 64);
    }

    private static void p02BelowAheadOfRoom() {
        TillOneOfSort x = full();
        due("below, no room", x.letter(-1), -4);
        refusals("below", x, 0, 0, 0, 1);
        due("above, no room", x.letter(256), -6);
        refusals("above", x, 0, 0, 0, 1, 0, 1);
    }

    /** A refused letter is not there: it is no fault of the text, and takes no room. */
    private static void p02ARefusedLetterIsNotThere() {
        TillOneOfSort x = new TillOneOfSort();
        x.letter('m');
        x.letter(-1);
        x.letter('7');
        x.letter(256);
        due("two, then the third", x.letter(';'), 3);
        due("a LAND", x.land(), 1);
        due("MOST", x.count(0), 7);
    }

    /** Letters are no signs of seven bits: what is 128 or 256 above a letter is another, or none. */
    private static void p02LettersAreNotCut() {
        for (int above : new int[] {'m' + 128, 'm' + 256, 'm' + 65536, 'm' - 256}) {
            TillOneOfSort x = new TillOneOfSort();
            x.letter(above);
            letters(x, "7;");
            due("m and " + (above - 'm'), x.land(), -1000);
        }
    }

    // Promise 3: "The letters become a LAND, and are no more (with a FAULT neither): how many STATEMENTS; the FAULT
    // (nothing is counted)."

    private static void p03LettersAreNoMore() {
        String[] texts = {"m3;", "x", "m", "m0;", "f11111111111;"};
        for (String text : texts) {
            TillOneOfSort x = new TillOneOfSort();
            tell(x, text);
            due("letters behind " + text, x.count(7), 0);
            due("none to tell behind " + text, x.land(), -1000);
            due("the next LAND behind " + text, tell(x, "m7;"), 1);
        }
    }

    private static void p03RoomBehindSixtyFourLettersWithAFault() {
        TillOneOfSort x = full();
        due("a FAULT", x.land(), -1063);
        for (int i = 1; i <= 64; i++) {
            due("letter " + i, x.letter('m'), i);
        }
        due("letter 65", x.letter('m'), -6);
    }

    private static void p03FromOneStatementToTwentyOne() {
        due("one", tell(new TillOneOfSort(), "f1;"), 1);
        due("twenty-one", tell(new TillOneOfSort(), "c3;".repeat(21)), 21);
    }

    private static void p03AFaultIsNotCounted() {
        TillOneOfSort x = new TillOneOfSort();
        for (String text : new String[] {"", "x", "m", "m0;", "c12;", "lt0;", "f1;f1;f1;f1;f1;f1;f1;f1;f1;"}) {
            holds("a FAULT of " + text, tell(x, text) <= -1000);
        }
        refusals("none", x);
    }

    private static void p03TheRowAndTheImageStay() {
        TillOneOfSort x = behind("m9;", "01");
        x.image();
        tell(x, "f1;f0;");
        due("the ROW", x.count(6), 2);
        due("the image", x.on(), 0);
    }

    // Promise 4: "The LAW: 10 times the KIND (0 t, 1 c, 2 a, 3 e, 4 r, 5 b) and the FIGURE it was. -2; -4; -6 9."

    private static void p04FromTheFirstKindToTheLast() {
        TillOneOfSort x = new TillOneOfSort();
        due("-1", x.law(-1, 1), -2);
        due("6", x.law(6, 1), -2);
        due("5 is taken", x.law(5, 1), 1);
        due("0 is taken", x.law(0, 1), 51);
        due("0 it is", x.count(3), 0);
        refusals("two others", x, 0, 2);
    }

    private static void p04FigureFromOneToNine() {
        TillOneOfSort x = new TillOneOfSort();
        due("0", x.law(3, 0), -4);
        due("10", x.law(3, 10), -6);
        state("neither KIND nor FIGURE", x, 5, 6, 5, 0, 1);
        due("9", x.law(3, 9), 1);
        due("it was 39", x.law(5, 1), 39);
        due("it was 51", x.law(5, 9), 51);
        due("it was 59", x.law(0, 1), 59);
        refusals("one each", x, 0, 0, 0, 1, 0, 1);
    }

    private static void p04OtherAheadOfBelowAheadOfRoom() {
        TillOneOfSort x = new TillOneOfSort();
        due("KIND and below", x.law(6, 0), -2);
        due("KIND and above", x.law(-1, 10), -2);
        refusals("others", x, 0, 2);
    }

    private static void p04EachKindByItsNumber() {
        String kinds = "tcaerb";
        for (int kind = 0; kind < 6; kind++) {
            TillOneOfSort x = told("l" + kinds.charAt(kind) + "7;");
            due("by its letter", x.law(kind, 2), 10 * kind + 7);
            due("by its number", x.law(0, 1), 10 * kind + 2);
        }
    }

    // Promise 5: "MOST (what 0), CHANCE (1), 5 and LEAN (2) becomes v: what it was. -2; -4 (1; 1; 0); -6 (10; 11; 10)."

    private static void p05FromWhat0ToWhat2() {
        TillOneOfSort x = new TillOneOfSort();
        due("-1", x.set(-1, 5), -2);
        due("3", x.set(3, 5), -2);
        due("MOST", x.set(0, 7), 5);
        due("CHANCE", x.set(1, 8), 6);
        due("LEAN", x.set(2, 9), 5);
        state("each its own", x, 7, 8, 9, 0, 1);
        refusals("two others", x, 0, 2);
    }

    private static void p05LeastAndGreatestOfEach() {
        int[] least = {1, 1, 0};
        int[] greatest = {10, 11, 10};
        int[] first = {5, 6, 5};
        for (int what = 0; what < 3; what++) {
            TillOneOfSort x = new TillOneOfSort();
            due("below " + what, x.set(what, least[what] - 1), -4);
            due("above " + what, x.set(what, greatest[what] + 1), -6);
            due("least " + what, x.set(what, least[what]), first[what]);
            due("greatest " + what, x.set(what, greatest[what]), least[what]);
            due("greatest stays " + what, x.count(what), greatest[what]);
            refusals("one each of " + what, x, 0, 0, 0, 1, 0, 1);
        }
    }

    private static void p05OtherAheadOfBelowAndOfRoom() {
        TillOneOfSort x = new TillOneOfSort();
        due("other and below", x.set(3, -1), -2);
        due("other and above", x.set(-1, 12), -2);
        refusals("others", x, 0, 2);
    }

    // Promise 6: "... MOST aside: 1, 0. -4 any; -6 any above 10; -3 run above ones, ones and zeros 0, run 0 without zeros."

    private static void p06FromZeroToTenOfEach() {
        TillOneOfSort x = told("lr9;");
        due("none of SORT 1", x.stops(0, 10, 0), 0);
        due("ten of SORT 1", x.stops(10, 0, 10), 1);
        due("ten of each", x.stops(10, 10, 8), 0);
        due("eleven of SORT 1", x.stops(11, 0, 1), -6);
        due("eleven of SORT 0", x.stops(0, 11, 0), -6);
        due("eleven latest", x.stops(10, 0, 11), -6);
        due("one less than none of SORT 1", x.stops(-1, 1, 0), -4);
        due("one less than none of SORT 0", x.stops(1, -1, 1), -4);
        due("one less than none latest", x.stops(1, 1, -1), -4);
        refusals("three each", x, 0, 0, 0, 3, 0, 3);
    }

    private static void p06RunAboveOnes() {
        TillOneOfSort x = told("lr2;");
        due("as many", x.stops(2, 3, 2), 1);
        due("one more", x.stops(2, 3, 3), -3);
        due("one of none", x.stops(0, 3, 1), -3);
        refusals("two", x, 0, 0, 2);
    }

    private static void p06NoChildren() {
        TillOneOfSort x = new TillOneOfSort();
        due("none", x.stops(0, 0, 0), -3);
        due("one of SORT 0", x.stops(0, 1, 0), 0);
        due("one of SORT 1", x.stops(1, 0, 1), 1);
        refusals("one", x, 0, 0, 1);
    }

    private static void p06RunOfNoneWithoutZeros() {
        TillOneOfSort x = told("lc1;");
        due("without", x.stops(1, 0, 0), -3);
        due("ten without", x.stops(10, 0, 0), -3);
        due("with one", x.stops(1, 1, 0), 1);
        due("one latest without", x.stops(10, 0, 1), 1);
        refusals("two", x, 0, 0, 2);
    }

    private static void p06BelowAheadOfRoomAheadOfState() {
        TillOneOfSort x = new TillOneOfSort();
        due("below and above", x.stops(11, -1, 11), -4);
        due("above and below", x.stops(-1, 11, 0), -4);
        due("below and state", x.stops(0, 0, -1), -4);
        due("above and state", x.stops(0, 0, 11), -6);
        due("above and run of none without zeros", x.stops(11, 0, 0), -6);
        refusals("of each", x, 0, 0, 0, 3, 0, 2);
    }

    private static void p06MostAside() {
        TillOneOfSort x = told("m1;lt1;");
        due("the first", x.stops(0, 1, 0), 0);
        due("the tenth", x.stops(0, 10, 0), 0);
        due("the twentieth", x.stops(10, 10, 0), 0);
    }

    // Promises 7 to 10 and 12: "-2 either", "-2".

    private static void p07FromWhat0To2AndPart0To1() {
        TillOneOfSort x = new TillOneOfSort();
        due("what -1", x.mean(-1, 0), OTHER);
        due("what 3", x.mean(3, 1), OTHER);
        due("part -1", x.mean(0, -1), OTHER);
        due("part 2", x.mean(2, 2), OTHER);
        due("both, counted once", x.mean(-1, 2), OTHER);
        refusals("five", x, 0, 5);
        fraction("0", x.mean(0, 0), x.mean(0, 1), 31, 16);
        fraction("2", x.mean(2, 0), x.mean(2, 1), 31, 32);
    }

    private static void p08FromPart0To1() {
        TillOneOfSort x = new TillOneOfSort();
        due("part -1", x.share(-1), OTHER);
        due("part 2", x.share(2), OTHER);
        refusals("two", x, 0, 2);
        fraction("0 and 1", x.share(0), x.share(1), 661, 960);
    }

    private static void p09FromPart0To1() {
        TillOneOfSort x = new TillOneOfSort();
        due("part -1", x.all(-1), OTHER);
        due("part 2", x.all(2), OTHER);
        refusals("two", x, 0, 2);
        fraction("0 and 1", x.all(0), x.all(1), 1, 2);
    }

    private static void p10FromWhat0To2AndPart0To1() {
        TillOneOfSort x = told("lc9;m2;c4;");
        due("what -1", x.more(-1, 0), OTHER);
        due("what 3", x.more(3, 1), OTHER);
        due("part -1", x.more(0, -1), OTHER);
        due("part 2", x.more(2, 2), OTHER);
        due("both, counted once", x.more(3, -1), OTHER);
        refusals("five", x, 0, 5);
        fraction("more", x.more(0, 0), x.more(0, 1), 1, 9);
        fraction("as many", x.more(1, 0), x.more(1, 1), 4, 9);
        fraction("fewer", x.more(2, 0), x.more(2, 1), 4, 9);
    }

    private static void p12FromWhat0To1AndPart0To1() {
        TillOneOfSort x = told("lc9;m2;c4;");
        due("what -1", x.met(-1, 0), OTHER);
        due("what 2", x.met(2, 1), OTHER);
        due("part -1", x.met(0, -1), OTHER);
        due("part 2", x.met(1, 2), OTHER);
        due("both, counted once", x.met(2, 2), OTHER);
        refusals("five", x, 0, 5);
        fraction("more of SORT 1", x.met(0, 0), x.met(0, 1), 1, 9);
        fraction("of SORT 1 with such a sibling", x.met(1, 0), x.met(1, 1), 1, 9);
    }

    // Promise 11: "-4; -6 10; -2."

    private static void p11BelowAheadOfRoomAheadOfOther() {
        TillOneOfSort x = new TillOneOfSort();
        due("0 and part", x.size(0, 2), FOUR + 4);
        due("11 and part", x.size(11, -1), FOUR + 6);
        due("1 and part", x.size(1, 2), OTHER);
        due("10 and part", x.size(10, -1), OTHER);
        refusals("of each", x, 0, 2, 0, 1, 0, 1);
    }

    /** What is above MOST is no refusal: no FAMILY has so many. */
    private static void p11AboveMostIsNotRefused() {
        TillOneOfSort x = told("m1;");
        fraction("2", x.size(2, 0), x.size(2, 1), 0, 1);
        fraction("10", x.size(10, 0), x.size(10, 1), 0, 1);
        refusals("none", x);
    }

    // Promise 13: "how likely (what 0), the eldest (1). Refused as told: -4 (a, b); -6 (9 either); -2 any of the others."

    private static void p13FromZeroToNine() {
        TillOneOfSort x = told("m10;");
        due("a 9 is taken, b 9", x.says(0, 9, 9, 0, 0), 0);
        due("a 0, b 0", x.says(0, 0, 0, 0, 1), 1);
        due("a -1", x.says(0, -1, 9, 0, 0), FOUR + 4);
        due("b -1", x.says(0, 9, -1, 0, 0), FOUR + 4);
        due("a 10", x.says(0, 10, 9, 0, 0), FOUR + 6);
        due("b 10", x.says(0, 9, 10, 0, 0), FOUR + 6);
        refusals("two each", x, 0, 0, 0, 2, 0, 2);
    }

    private static void p13BelowAheadOfRoomAheadOfOther() {
        TillOneOfSort x = new TillOneOfSort();
        due("a below, b above", x.says(0, -1, 10, 0, 0), FOUR + 4);
        due("a above, b below", x.says(0, 10, -1, 0, 0), FOUR + 4);
        due("below and others", x.says(2, 0, -1, 2, 2), FOUR + 4);
        due("above and others", x.says(2, 10, 0, 2, 2), FOUR + 6);
        due("others", x.says(2, 0, 0, 2, 2), OTHER);
        refusals("of each", x, 0, 1, 0, 3, 0, 1);
    }

    private static void p13AnyOfTheOthers() {
        TillOneOfSort x = new TillOneOfSort();
        for (int bad : new int[] {-1, 2}) {
            due("SORT", x.says(bad, 0, 0, 0, 0), OTHER);
            due("what", x.says(0, 0, 0, bad, 0), OTHER);
            due("part", x.says(0, 0, 0, 0, bad), OTHER);
        }
        refusals("six", x, 0, 6);
    }

    // Promise 14: "Refused as told: -4 either; -6 (10; 9); -2."

    private static void p14BelowAheadOfRoomAheadOfOther() {
        TillOneOfSort x = new TillOneOfSort();
        due("n below, d above", x.trial(0, 10, 0), FOUR + 4);
        due("n above, d below", x.trial(11, 0, 0), FOUR + 4);
        due("below and part", x.trial(0, 1, 2), FOUR + 4);
        due("n above and part", x.trial(11, 9, 2), FOUR + 6);
        due("d above and part", x.trial(10, 10, 2), FOUR + 6);
        due("part", x.trial(10, 9, 2), OTHER);
        refusals("of each", x, 0, 1, 0, 3, 0, 2);
    }

    /** The nine of d are not the ten of n. */
    private static void p14TenAndNine() {
        TillOneOfSort x = new TillOneOfSort();
        due("n 10, d 9", x.trial(10, 9, 1), 512);
        due("n 9, d 9", x.trial(9, 9, 1), 512);
        due("n 10, d 10", x.trial(10, 10, 1), FOUR + 6);
        due("n 11, d 9", x.trial(11, 9, 1), FOUR + 6);
        due("n 1, d 1", x.trial(1, 1, 1), 2);
        refusals("two", x, 0, 0, 0, 0, 0, 2);
    }

    // Promise 15: "A child more of the ROW (0, 1): how many. -2; -6 10."

    private static void p15TenChildren() {
        TillOneOfSort x = new TillOneOfSort();
        for (int i = 1; i <= 10; i++) {
            due("child " + i, x.row(0), i);
        }
        due("the eleventh", x.row(1), -6);
        due("ten", x.count(6), 10);
        due("they are of SORT 0", x.judge(), 4);
        due("the first again", x.row(1), 1);
        refusals("one", x, 0, 0, 0, 0, 0, 1);
    }

    private static void p15Sort0And1() {
        TillOneOfSort x = new TillOneOfSort();
        due("-1", x.row(-1), -2);
        due("2", x.row(2), -2);
        due("none", x.count(6), 0);
        due("0", x.row(0), 1);
        due("1", x.row(1), 2);
        due("01", x.judge(), 20);
        refusals("two", x, 0, 2);
    }

    private static void p15OtherAheadOfRoom() {
        TillOneOfSort x = full();
        due("2, no room", x.row(2), -2);
        due("-1, no room", x.row(-1), -2);
        due("1, no room", x.row(1), -6);
        refusals("of each", x, 0, 2, 0, 0, 0, 1);
    }

    /** A ROW may have more children than MOST. */
    private static void p15AboveMostIsNotRefused() {
        TillOneOfSort x = told("m1;");
        x.row(0);
        due("the second", x.row(0), 2);
        refusals("none", x);
    }

    // Promise 16: "GONE (the ROW stays). Refused as told: -2."

    private static void p16TheRowStays() {
        TillOneOfSort x = behind("c4;", "0");
        for (int times = 0; times < 3; times++) {
            fraction("gone", x.gone(0), x.gone(1), 1, 3);
            due("the ROW", x.count(6), 1);
        }
        due("part -1", x.gone(-1), OTHER);
        due("part 2", x.gone(2), OTHER);
        due("the ROW", x.count(6), 1);
        refusals("two", x, 0, 2);
    }

    // Promises 17 and 18: "SHIFT (0), LEAST (1). -2." "FITS (0), COULD (1) (bits). -2."

    private static void p17From0To1() {
        TillOneOfSort x = told("m2;n+5;");
        due("-1", x.shift(-1), -2);
        due("2", x.shift(2), -2);
        due("0", x.shift(0), 3);
        due("1", x.shift(1), 0);
        refusals("two", x, 0, 2);
        state("the LAW stays", x, 2, 6, 10, 0, 1);
    }

    private static void p18From0To1() {
        TillOneOfSort x = told("m9;f10;");
        due("-1", x.fits(-1), -2);
        due("2", x.fits(2), -2);
        due("0", x.fits(0), 40);
        due("1", x.fits(1), 40);
        refusals("two", x, 0, 2);
        state("the LAW stays", x, 9, 6, 5, 0, 1, 1);
    }

    // Promise 19: "JUDGED; -9 (whichever it answers, the ROW has none then)."

    private static void p19TheRowHasNoneThen() {
        String[] rows = {"", "0", "1", "10"};
        int[] answers = {-9, -9, 20, 0};
        for (int i = 0; i < rows.length; i++) {
            TillOneOfSort x = behind("m9;", rows[i]);
            due("judge " + rows[i], x.judge(), answers[i]);
            due("none", x.count(6), 0);
            due("judge none", x.judge(), -9);
            due("the first again", x.row(0), 1);
            due("nothing is left of it", x.judge(), -9);
            refusals("none", x);
        }
    }

    // Promise 20: "Of the i-th FAMILY SEEN (0 first): how many children (what 0), SORTS (1; bits, the eldest lowest);
    // -9 none such. -4; -2."

    private static void p20FromTheFirstToTheLast() {
        TillOneOfSort x = told("f01;f110;");
        due("-1", x.seen(-1, 0), -4);
        due("the first", x.seen(0, 1), 2);
        due("the second", x.seen(1, 1), 3);
        due("the third", x.seen(2, 1), -9);
        due("the greatest int", x.seen(MAX, 0), -9);
        refusals("below", x, 0, 0, 0, 1);
    }

    private static void p20NoneSeenAndEightSeen() {
        due("none", new TillOneOfSort().seen(0, 0), -9);
        TillOneOfSort x = full();
        due("the eighth", x.seen(7, 0), 1);
        due("the ninth", x.seen(8, 0), -9);
        due("the tenth", x.seen(9, 1), -9);
        refusals("none", x);
    }

    private static void p20BelowAheadOfOtherAheadOfNoneSuch() {
        TillOneOfSort x = told("f01;");
        due("below and other", x.seen(-1, 2), -4);
        due("other", x.seen(0, 2), -2);
        due("other of none such", x.seen(1, -1), -2);
        due("none such", x.seen(1, 1), -9);
        refusals("of each", x, 0, 2, 0, 1);
    }

    private static void p20TheEldestLowest() {
        TillOneOfSort x = told("f1000000000;f0000000001;f0;f1;");
        due("the eldest", x.seen(0, 1), 1);
        due("the youngest of ten", x.seen(1, 1), 512);
        due("one of SORT 0", x.seen(2, 1), 0);
        due("one of SORT 1", x.seen(3, 1), 1);
        due("ten", x.seen(1, 0), 10);
    }

    // Promise 22: "LOTS: of a SORT. -4; -6 40; -2."

    private static void p22BelowAheadOfRoomAheadOfOther() {
        TillOneOfSort x = told("m1;");
        due("0 and SORT", x.lots(0, 0, 2), -4);
        due("41 and SORT", x.lots(41, 0, -1), -6);
        due("1 and SORT", x.lots(1, 0, 2), -2);
        due("40 and SORT", x.lots(40, 0, -1), -2);
        refusals("of each", x, 0, 2, 0, 1, 0, 1);
        due("40 of one child", x.lots(40, 0, 0) + x.lots(40, 0, 1), 40);
        due("1 of one child", x.lots(1, 0, 0) + x.lots(1, 0, 1), 1);
    }

    private static void p22AnySeed() {
        TillOneOfSort x = told("m1;");
        for (int z : new int[] {MIN, MIN + 1, -1, 0, 1, MAX - 1, MAX}) {
            due("from " + z, x.lots(40, z, 0) + x.lots(40, z, 1), 40);
        }
        refusals("none", x);
    }

    // Promise 24: "ON from it: FAMILIES SEEN. -3 there is none."

    private static void p24ThereIsNone() {
        TillOneOfSort x = full();
        due("none", x.on(), -3);
        due("none again", x.on(), -3);
        state("it changes nothing", x, 5, 6, 5, 0, 1, 8, 10, 64);
        refusals("two", x, 0, 0, 2);
        due("an image", x.image(), 8);
        due("on", x.on(), 8);
        refusals("no more", x, 0, 0, 2);
    }

    // Promise 25: "... 11 .. 16 REFUSALS -1 .. -6. -9 for another what."

    private static void p25AnotherWhat() {
        TillOneOfSort x = full();
        for (int what : new int[] {MIN, -1, 8, 9, 10, 17, MAX}) {
            due("count(" + what + ")", x.count(what), -9);
        }
        refusals("none", x);
    }

    private static void p25FromMostToLetters() {
        state("full", full(), 5, 6, 5, 0, 1, 8, 10, 64);
        state("empty", new TillOneOfSort(), 5, 6, 5, 0, 1, 0, 0, 0);
        state("least", told("m1;c1;n-5;lt1;"), 1, 1, 0, 0, 1);
        state("greatest", told("m10;c11;n+5;lb9;"), 10, 11, 10, 5, 9);
    }

    private static void p25EachRefusalByItself() {
        TillOneOfSort x = new TillOneOfSort();
        x.row(2);
        refusals("OTHER", x, 0, 1);
        x.on();
        refusals("STATE", x, 0, 1, 1);
        x.letter(-1);
        refusals("BELOW", x, 0, 1, 1, 1);
        x.letter(256);
        refusals("ROOM", x, 0, 1, 1, 1, 0, 1);
    }

    public static void main(String[] args) throws ReflectiveOperationException {
        runAll(PromiseBoundariesTest.class);
    }
}
