/** Every promise by answers worked out by hand: ordinary inputs, the edges, the refusals in their order. */
public final class PromisesTest extends Checks {
    private static final int[] FAR = {Integer.MIN_VALUE, -1000000, 1000000, Integer.MAX_VALUE};

    private static void promise01() {
        TillOneOfSort x = new TillOneOfSort();
        state("1 new", x, 5, 6, 5, 0, 1, 0, 0, 0);
        refusals("1 new", x);
        fraction("1 mean", x.mean(0, 0), x.mean(0, 1), 31, 16);
        fraction("1 a child of sort 1", x.trial(1, 1, 0), x.trial(1, 1, 1), 1, 2);
        due("1 on", x.on(), -3);
        TillOneOfSort y = new TillOneOfSort();
        x.set(0, 1);
        x.row(1);
        state("1 each its own", y, 5, 6, 5, 0, 1, 0, 0, 0);
    }

    private static void promise02() {
        TillOneOfSort x = new TillOneOfSort();
        due("2 letter(0)", x.letter(0), 1);
        due("2 letter(255)", x.letter(255), 2);
        due("2 letter(-1)", x.letter(-1), -4);
        due("2 letter(256)", x.letter(256), -6);
        due("2 a refusal tells nothing", x.count(7), 2);
        for (int i = 3; i <= 64; i++) {
            due("2 letter " + i, x.letter('f'), i);
        }
        due("2 no room", x.letter('f'), -6);
        due("2 below ahead of no room", x.letter(-1), -4);
        due("2 above and no room", x.letter(256), -6);
        due("2 letters", x.count(7), 64);
        refusals("2", x, 0, 0, 0, 2, 0, 3);
        due("2 land", x.land(), -1000);
        due("2 room again", x.letter('f'), 1);
    }

    private static void fault(String text, int want) {
        TillOneOfSort x = told("la3;m7;c4;n-2;f01;");
        due("3 land of " + text, tell(x, text), want);
        state("3 after " + text, x, 7, 4, 3, 2, 3, 1, 0, 0);
        refusals("3 after " + text, x);
    }

    private static void promise03() {
        TillOneOfSort x = new TillOneOfSort();
        due("3 land", tell(x, "lr9;m10;c11;n+5;f0;f1111111111;"), 6);
        state("3 land", x, 10, 11, 10, 4, 9, 2, 0, 0);
        due("3 the second family's children", x.seen(1, 0), 10);
        due("3 the second family's sorts", x.seen(1, 1), 1023);
        due("3 least", tell(x, "lt1;m1;c1;n-5;"), 4);
        state("3 least", x, 1, 1, 0, 0, 1, 2, 0, 0);
        due("3 numbers that begin with 0", tell(x, "m07;c09;n-0;"), 3);
        state("3 numbers that begin with 0", x, 7, 9, 5, 0, 1, 2, 0, 0);
        due("3 the later one holds", tell(x, "lc2;lb3;n+4;n+3;"), 4);
        state("3 the later one holds", x, 7, 9, 8, 5, 3, 2, 0, 0);
        String kinds = "tcaerb";
        for (int kind = 0; kind < kinds.length(); kind++) {
            due("3 kind " + kind, tell(x, "l" + kinds.charAt(kind) + "5;"), 1);
            due("3 kind", x.count(3), kind);
        }
        String[] letters = {"", "x", "lt1;x", "lt1;l", "l", "lt", "lt1", "lq1;", "lT1;", "lt;", "ltx;", "lt11;", "l;",
            "m", "m;", "m1", "m11", "m111;", "m1x", "mx", "c", "c;", "c111;", "n", "n5;", "n+", "n+;", "n-55;", "n*5;",
            "f", "f;", "f2;", "f02;", "f01", "f01010101010;", "f0101010101", ";", "lt1;;", "lt1 ;", "m0;x", "lt1;m"};
        int[] places = {0, 0, 4, 5, 1, 2, 3, 1, 1, 2, 2, 3, 1,
            1, 1, 2, 3, 3, 2, 1, 1, 1, 3, 1, 1, 2, 2, 3, 1,
            1, 1, 1, 2, 3, 11, 11, 0, 4, 3, 3, 5};
        for (int i = 0; i < letters.length; i++) {
            fault(letters[i], -1000 - places[i]);
        }
        String[] statements = {"lt0;", "m0;", "m00;", "m11;", "m99;", "c0;", "c12;", "n+6;", "n-6;", "lt1;m0;c0;",
            "m3;f1;c99;", "f1;f1;f1;f1;f1;f1;f1;f1;", "f1;f1;f1;f1;f1;f1;f1;m3;f0;m0;", "lb9;n-9;"};
        int[] at = {0, 0, 0, 0, 0, 0, 0, 0, 0, 4, 6, 21, 24, 4};
        for (int i = 0; i < statements.length; i++) {
            fault(statements[i], -2000 - at[i]);
        }
        due("3 seven more have room", tell(told("f01;"), "f1;f1;f1;f1;f1;f1;f1;"), 7);
        StringBuilder full = new StringBuilder();
        for (int i = 0; i < 21; i++) {
            full.append("m3;");
        }
        due("3 sixty-three letters", tell(new TillOneOfSort(), full.toString()), 21);
        due("3 all sixty-four", tell(new TillOneOfSort(), full.substring(3) + "lt1;"), 21);
        due("3 the end of sixty-four", tell(new TillOneOfSort(), full + "l"), -1064);
        due("3 no letters", new TillOneOfSort().land(), -1000);
    }

    private static void promise04() {
        TillOneOfSort x = new TillOneOfSort();
        due("4 law(5, 9)", x.law(5, 9), 1);
        due("4 law(0, 1)", x.law(0, 1), 59);
        due("4 law(2, 3)", x.law(2, 3), 1);
        for (int kind : new int[] {-1, 6}) {
            due("4 other kind", x.law(kind, 1), -2);
            due("4 other ahead of below", x.law(kind, 0), -2);
            due("4 other ahead of room", x.law(kind, 10), -2);
        }
        due("4 below", x.law(1, 0), -4);
        due("4 room", x.law(1, 10), -6);
        for (int far : FAR) {
            due("4 far kind", x.law(far, 1), -2);
            due("4 far figure", x.law(1, far), far < 0 ? -4 : -6);
        }
        state("4 refusals tell nothing", x, 5, 6, 5, 2, 3);
        refusals("4", x, 0, 10, 0, 3, 0, 3);
        due("4 it was", x.law(4, 4), 23);
    }

    private static void promise05() {
        TillOneOfSort x = new TillOneOfSort();
        due("5 most", x.set(0, 10), 5);
        due("5 chance", x.set(1, 11), 6);
        due("5 lean", x.set(2, 10), 5);
        state("5 greatest", x, 10, 11, 10);
        due("5 most", x.set(0, 1), 10);
        due("5 chance", x.set(1, 1), 11);
        due("5 lean", x.set(2, 0), 10);
        state("5 least", x, 1, 1, 0);
        int[] below = {0, 0, -1};
        int[] above = {11, 12, 11};
        for (int what = 0; what < 3; what++) {
            due("5 below " + what, x.set(what, below[what]), -4);
            due("5 above " + what, x.set(what, above[what]), -6);
            due("5 far below " + what, x.set(what, Integer.MIN_VALUE), -4);
            due("5 far above " + what, x.set(what, Integer.MAX_VALUE), -6);
        }
        due("5 other", x.set(3, 1), -2);
        due("5 other", x.set(-1, 1), -2);
        due("5 other ahead of below", x.set(3, -1), -2);
        due("5 other ahead of room", x.set(-1, 99), -2);
        state("5 refusals tell nothing", x, 1, 1, 0);
        refusals("5", x, 0, 4, 0, 6, 0, 6);
        TillOneOfSort y = new TillOneOfSort();
        y.set(2, 6);
        fraction("5 lean counts from 5", y.trial(2, 2, 0), y.trial(2, 2, 1), 7, 24);
    }

    private static void promise06() {
        TillOneOfSort x = new TillOneOfSort();
        int[][] rows = {
            // kind, figure, ones, zeros, run, whether it stops
            {0, 9, 1, 0, 1, 1}, {0, 9, 3, 2, 0, 0}, {0, 1, 3, 10, 1, 1}, {0, 1, 0, 1, 0, 0},
            {1, 2, 1, 5, 1, 0}, {1, 2, 2, 5, 0, 1}, {1, 2, 10, 5, 3, 1}, {1, 9, 8, 1, 8, 0}, {1, 9, 9, 0, 9, 1},
            {2, 2, 3, 1, 0, 1}, {2, 2, 4, 1, 1, 0}, {2, 2, 1, 3, 1, 0}, {2, 1, 2, 2, 1, 0}, {2, 9, 10, 1, 10, 1},
            {3, 2, 1, 1, 0, 1}, {3, 2, 3, 1, 0, 0}, {3, 9, 10, 10, 10, 1}, {3, 1, 1, 0, 1, 0}, {3, 1, 0, 1, 0, 0},
            {4, 3, 3, 0, 3, 1}, {4, 3, 5, 1, 4, 1}, {4, 3, 5, 2, 2, 0}, {4, 3, 5, 2, 0, 0}, {4, 1, 1, 0, 1, 1},
            {5, 3, 1, 0, 1, 0}, {5, 3, 0, 1, 0, 0}, {5, 3, 1, 1, 0, 1}, {5, 3, 1, 1, 1, 1}, {5, 3, 3, 4, 0, 1},
        };
        for (int[] r : rows) {
            x.law(r[0], r[1]);
            String what = "6 kind " + r[0] + " figure " + r[1] + " stops(" + r[2] + ", " + r[3] + ", " + r[4] + ")";
            due(what, x.stops(r[2], r[3], r[4]), r[5]);
        }
        x.law(0, 1);
        x.set(0, 1);
        due("6 most aside", x.stops(0, 4, 0), 0);
        refusals("6 none", x);
        due("6 below ones", x.stops(-1, 1, 0), -4);
        due("6 below zeros", x.stops(1, -1, 0), -4);
        due("6 below run", x.stops(1, 1, -1), -4);
        due("6 below ahead of room", x.stops(11, -1, 0), -4);
        due("6 room ones", x.stops(11, 1, 0), -6);
        due("6 room zeros", x.stops(1, 11, 0), -6);
        due("6 room run", x.stops(10, 1, 11), -6);
        due("6 room ahead of state", x.stops(0, 0, 11), -6);
        due("6 run above ones", x.stops(2, 1, 3), -3);
        due("6 no children", x.stops(0, 0, 0), -3);
        due("6 no run, no zeros", x.stops(1, 0, 0), -3);
        due("6 run above none", x.stops(0, 1, 1), -3);
        due("6 room is kept", x.stops(10, 10, 10), 1);
        refusals("6", x, 0, 0, 4, 4, 0, 4);
        for (int far : FAR) {
            due("6 far", x.stops(far, far, far), far < 0 ? -4 : -6);
        }
    }

    private static void promise07() {
        TillOneOfSort x = new TillOneOfSort();
        fraction("7 mean", x.mean(0, 0), x.mean(0, 1), 31, 16);
        fraction("7 of sort 1", x.mean(1, 0), x.mean(1, 1), 31, 32);
        fraction("7 of sort 0", x.mean(2, 0), x.mean(2, 1), 31, 32);
        x.set(0, 1);
        fraction("7 one child", x.mean(0, 0), x.mean(0, 1), 1, 1);
        x.set(0, 2);
        x.set(1, 3);
        // 1 (1/4), 01 (3/16), 00 (9/16)
        fraction("7 chance 3", x.mean(0, 0), x.mean(0, 1), 7, 4);
        fraction("7 chance 3, ones", x.mean(1, 0), x.mean(1, 1), 7, 16);
        fraction("7 chance 3, zeros", x.mean(2, 0), x.mean(2, 1), 21, 16);
        TillOneOfSort run = told("lr2;m3;");
        // 11 (1/4), all others three children
        fraction("7 run", run.mean(0, 0), run.mean(0, 1), 11, 4);
        TillOneOfSort both = told("lb1;m3;");
        // 10, 01 (1/2), 001, 000, 110, 111
        fraction("7 both", both.mean(0, 0), both.mean(0, 1), 5, 2);
        TillOneOfSort never = told("lc9;m3;c11;n+5;");
        // 1 11/12: then 1 for ever; 0: then 11-5=6 of 12
        fraction("7 twelve twelfths at most", never.size(3, 0), never.mean(0, 0), 1, 3);
        // ones: 11/12*3 + 1/12*(1/2*2 + 1/2*1/2)
        fraction("7 lean and bounds", never.mean(1, 0), never.mean(1, 1), 137, 48);
        TillOneOfSort less = told("lc9;m2;c1;n-5;");
        // 1 (1/12) then 0 of 12; 0 (11/12) then 6 of 12: 1/12 + 11/24
        fraction("7 no twelfths at least", less.mean(1, 0), less.mean(1, 1), 13, 24);
        TillOneOfSort y = new TillOneOfSort();
        for (int bad : new int[] {-1, 3, Integer.MIN_VALUE, Integer.MAX_VALUE}) {
            due("7 other what", y.mean(bad, 0), FOUR + 2);
        }
        for (int bad : new int[] {-1, 2, Integer.MIN_VALUE, Integer.MAX_VALUE}) {
            due("7 other part", y.mean(0, bad), FOUR + 2);
        }
        due("7 both other", y.mean(3, 2), FOUR + 2);
        refusals("7", y, 0, 9);
    }

    /** A call that refuses all other parts with -2. */
    private static void partsOf(String what, TillOneOfSort x, long... answers) {
        for (long answer : answers) {
            due(what + " other part", answer, FOUR + 2);
        }
        refusals(what, x, 0, answers.length);
    }

    private static void promise08() {
        TillOneOfSort x = new TillOneOfSort();
        fraction("8 share", x.share(0), x.share(1), 661, 960);
        x.set(0, 2);
        fraction("8 two at most", x.share(0), x.share(1), 5, 8);
        x.law(3, 1);
        fraction("8 even", x.share(0), x.share(1), 1, 2);
        TillOneOfSort most = told("lc9;m10;c1;n-5;");
        due("8 greatest land's line is below", most.share(0) < most.share(1) ? 1 : 0, 1);
        TillOneOfSort y = new TillOneOfSort();
        partsOf("8", y, y.share(-1), y.share(2), y.share(Integer.MIN_VALUE), y.share(Integer.MAX_VALUE));
    }

    private static void promise09() {
        TillOneOfSort x = new TillOneOfSort();
        fraction("9 all", x.all(0), x.all(1), 1, 2);
        x.set(1, 4);
        fraction("9 chance, whatever the law", x.all(0), x.all(1), 1, 3);
        x.law(4, 3);
        fraction("9 chance, whatever the law", x.all(0), x.all(1), 1, 3);
        TillOneOfSort lean = told("m2;n+5;");
        // 1 (1/2), 01 (1/24), 00 (11/24)
        fraction("9 lean", lean.all(0), lean.all(1), 13, 36);
        lean.set(2, 5);
        fraction("9 no lean any more", lean.all(0), lean.all(1), 1, 2);
        TillOneOfSort y = new TillOneOfSort();
        partsOf("9", y, y.all(-1), y.all(2), y.all(Integer.MIN_VALUE), y.all(Integer.MAX_VALUE));
    }

    private static void promise10() {
        TillOneOfSort x = new TillOneOfSort();
        fraction("10 more", x.more(0, 0), x.more(0, 1), 1, 2);
        fraction("10 as many", x.more(1, 0), x.more(1, 1), 1, 4);
        fraction("10 fewer", x.more(2, 0), x.more(2, 1), 1, 4);
        x.law(2, 1);
        fraction("10 ahead, more", x.more(0, 0), x.more(0, 1), 11, 16);
        fraction("10 ahead, as many", x.more(1, 0), x.more(1, 1), 0, 1);
        fraction("10 ahead, fewer", x.more(2, 0), x.more(2, 1), 5, 16);
        TillOneOfSort y = new TillOneOfSort();
        partsOf("10", y, y.more(-1, 0), y.more(3, 0), y.more(0, -1), y.more(0, 2), y.more(3, 2),
            y.more(Integer.MIN_VALUE, 0), y.more(Integer.MAX_VALUE, 1), y.more(0, Integer.MAX_VALUE));
    }

    private static void promise11() {
        TillOneOfSort x = new TillOneOfSort();
        fraction("11 size 1", x.size(1, 0), x.size(1, 1), 1, 2);
        fraction("11 size 4", x.size(4, 0), x.size(4, 1), 1, 16);
        fraction("11 size 5", x.size(5, 0), x.size(5, 1), 1, 16);
        fraction("11 size 6", x.size(6, 0), x.size(6, 1), 0, 1);
        fraction("11 size 10", x.size(10, 0), x.size(10, 1), 0, 1);
        x.set(0, 10);
        fraction("11 size 10 of 10", x.size(10, 0), x.size(10, 1), 1, 512);
        x.set(1, 1);
        // eleven twelfths nine times
        fraction("11 large", x.size(10, 0), x.size(10, 1), 2357947691L, 5159780352L);
        due("11 below", x.size(0, 0), FOUR + 4);
        due("11 below ahead of other", x.size(0, 2), FOUR + 4);
        due("11 room", x.size(11, 0), FOUR + 6);
        due("11 room ahead of other", x.size(11, 2), FOUR + 6);
        due("11 other", x.size(1, 2), FOUR + 2);
        due("11 other", x.size(10, -1), FOUR + 2);
        for (int far : FAR) {
            due("11 far", x.size(far, 0), FOUR + (far < 0 ? 4 : 6));
            due("11 far part", x.size(1, far), FOUR + 2);
        }
        refusals("11", x, 0, 6, 0, 4, 0, 4);
    }

    private static void promise12() {
        TillOneOfSort x = new TillOneOfSort();
        fraction("12 of a family with more", x.met(0, 0), x.met(0, 1), 8, 31);
        fraction("12 no sister of a sister", x.met(1, 0), x.met(1, 1), 0, 1);
        x.law(1, 2);
        fraction("12 count, more", x.met(0, 0), x.met(0, 1), 20, 57);
        fraction("12 count, sisters", x.met(1, 0), x.met(1, 1), 26, 57);
        TillOneOfSort y = new TillOneOfSort();
        partsOf("12", y, y.met(-1, 0), y.met(2, 0), y.met(0, -1), y.met(1, 2), y.met(2, 2),
            y.met(Integer.MIN_VALUE, 0), y.met(Integer.MAX_VALUE, 1), y.met(1, Integer.MIN_VALUE));
    }

    private static void promise13() {
        TillOneOfSort x = new TillOneOfSort();
        fraction("13 alone", x.says(1, 0, 0, 0, 0), x.says(1, 0, 0, 0, 1), 8, 31);
        fraction("13 alone, the eldest", x.says(1, 0, 0, 1, 0), x.says(1, 0, 0, 1, 1), 1, 1);
        fraction("13 a zero of 001", x.says(0, 1, 1, 0, 0), x.says(0, 1, 1, 0, 1), 4, 31);
        fraction("13 a zero of 001, the eldest", x.says(0, 1, 1, 1, 0), x.says(0, 1, 1, 1, 1), 1, 2);
        fraction("13 the one of 001", x.says(1, 0, 2, 0, 0), x.says(1, 0, 2, 0, 1), 2, 31);
        fraction("13 the one of 001, the eldest", x.says(1, 0, 2, 1, 0), x.says(1, 0, 2, 1, 1), 0, 1);
        fraction("13 nobody", x.says(1, 2, 0, 0, 0), x.says(1, 2, 0, 0, 1), 0, 1);
        fraction("13 nobody, the eldest", x.says(1, 2, 0, 1, 0), x.says(1, 2, 0, 1, 1), 0, 1);
        fraction("13 too many", x.says(0, 9, 9, 0, 0), x.says(0, 9, 9, 1, 1), 0, 1);
        TillOneOfSort ten = told("lc9;m10;");
        // ten zeros: 1/1024 of the families, 10 children each
        due("13 ten of a sort", ten.says(0, 0, 9, 0, 0) > 0 ? 1 : 0, 1);
        fraction("13 ten of a sort, the eldest", ten.says(0, 0, 9, 1, 0), ten.says(0, 0, 9, 1, 1), 1, 10);
        TillOneOfSort three = told("lc9;m3;n+3;");
        // 110 1/2*9/12*3/12=9/96, 101 1/2*3/12*3/12=3/96, 011 1/2*3/12*9/12=9/96: sayers 2*21, eldest 9+3
        fraction("13 lean, the eldest", three.says(1, 1, 1, 1, 0), three.says(1, 1, 1, 1, 1), 2, 7);
        fraction("13 lean", three.says(1, 1, 1, 0, 0), three.says(1, 1, 1, 0, 1), 7, 48);
        TillOneOfSort y = new TillOneOfSort();
        due("13 below a", y.says(0, -1, 0, 0, 0), FOUR + 4);
        due("13 below b", y.says(0, 0, -1, 0, 0), FOUR + 4);
        due("13 below ahead of all", y.says(2, 10, -1, 2, 2), FOUR + 4);
        due("13 room a", y.says(0, 10, 0, 0, 0), FOUR + 6);
        due("13 room b", y.says(0, 0, 10, 0, 0), FOUR + 6);
        due("13 room ahead of other", y.says(2, 10, 0, 2, 2), FOUR + 6);
        for (int bad : new int[] {-1, 2, Integer.MIN_VALUE, Integer.MAX_VALUE}) {
            due("13 other sort", y.says(bad, 0, 0, 0, 0), FOUR + 2);
            due("13 other what", y.says(0, 0, 0, bad, 0), FOUR + 2);
            due("13 other part", y.says(0, 0, 0, 0, bad), FOUR + 2);
        }
        refusals("13", y, 0, 12, 0, 3, 0, 3);
        due("13 far", y.says(0, Integer.MAX_VALUE, Integer.MIN_VALUE, 0, 0), FOUR + 4);
        due("13 far", y.says(0, Integer.MAX_VALUE, Integer.MAX_VALUE, 0, 0), FOUR + 6);
    }

    private static void promise14() {
        TillOneOfSort x = new TillOneOfSort();
        fraction("14 one child", x.trial(1, 1, 0), x.trial(1, 1, 1), 1, 2);
        fraction("14 it counts though it passes", x.trial(2, 1, 0), x.trial(2, 1, 1), 1, 2);
        fraction("14 three", x.trial(3, 1, 0), x.trial(3, 1, 1), 5, 8);
        fraction("14 too few", x.trial(1, 2, 0), x.trial(1, 2, 1), 0, 1);
        fraction("14 nine ahead", x.trial(10, 9, 0), x.trial(10, 9, 1), 1, 512);
        x.law(3, 1);
        x.set(0, 1);
        fraction("14 without law or most", x.trial(3, 1, 0), x.trial(3, 1, 1), 5, 8);
        x.set(1, 3);
        x.set(2, 7);
        // 1 1/4; 011: 3/4*1/12*5/12
        fraction("14 chance and lean", x.trial(3, 1, 0), x.trial(3, 1, 1), 53, 192);
        fraction("14 the law is as before", x.mean(1, 0), x.mean(1, 1), 1, 4);
        TillOneOfSort y = new TillOneOfSort();
        due("14 below n", y.trial(0, 1, 0), FOUR + 4);
        due("14 below d", y.trial(1, 0, 0), FOUR + 4);
        due("14 below ahead of room", y.trial(11, 0, 2), FOUR + 4);
        due("14 below ahead of room", y.trial(0, 10, 2), FOUR + 4);
        due("14 room n", y.trial(11, 1, 0), FOUR + 6);
        due("14 room d", y.trial(1, 10, 0), FOUR + 6);
        due("14 room ahead of other", y.trial(1, 10, 2), FOUR + 6);
        due("14 other", y.trial(1, 1, 2), FOUR + 2);
        due("14 other", y.trial(10, 9, -1), FOUR + 2);
        refusals("14", y, 0, 2, 0, 4, 0, 3);
        due("14 far", y.trial(Integer.MIN_VALUE, Integer.MAX_VALUE, 0), FOUR + 4);
        due("14 far", y.trial(Integer.MAX_VALUE, Integer.MAX_VALUE, 0), FOUR + 6);
    }

    private static void promise15() {
        TillOneOfSort x = new TillOneOfSort();
        for (int i = 1; i <= 10; i++) {
            due("15 child " + i, x.row(i % 2), i);
        }
        due("15 room", x.row(1), -6);
        due("15 other ahead of room", x.row(2), -2);
        due("15 other", x.row(-1), -2);
        due("15 other", x.row(Integer.MIN_VALUE), -2);
        due("15 other", x.row(Integer.MAX_VALUE), -2);
        due("15 the row is as before", x.count(6), 10);
        refusals("15", x, 0, 4, 0, 0, 0, 1);
        due("15 judge", x.judge(), 0);
        due("15 anew", x.row(0), 1);
    }

    private static void gone(String land, String sorts, long above, long below) {
        TillOneOfSort x = told(land);
        rowOf(x, sorts);
        fraction("16 " + land + " gone behind " + sorts, x.gone(0), x.gone(1), above, below);
        due("16 the row stays", x.count(6), sorts.length());
    }

    private static void promise16() {
        gone("lt1;", "", 1, 2);
        gone("lt1;", "00", 1, 2);
        gone("lt1;", "1", 0, 1);
        gone("lt1;", "10", 0, 1);
        gone("lt1;", "0000", 1, 1);
        gone("lt1;", "00000", 0, 1);
        gone("lt1;", "0000000000", 0, 1);
        gone("lc5;m3;", "0", 0, 1);
        gone("lc5;m3;", "10", 1, 1);
        gone("m1;lc5;", "", 1, 1);
        gone("lr3;", "1", 0, 1);
        gone("lr3;", "011", 1, 2);
        gone("lc2;c4;", "", 0, 1);
        gone("lc2;c4;", "01", 1, 3);
        gone("lc2;c4;n+2;", "01", 1, 2);
        gone("lc2;c4;n+2;", "10", 1, 6);
        gone("lc2;c4;n+2;", "110", 0, 1);
        gone("le1;c4;", "0", 1, 3);
        gone("le1;c4;", "1", 2, 3);
        gone("le1;", "", 0, 1);
        gone("lb1;c1;n-5;", "1", 1, 1);
        gone("lb1;c1;n-5;", "0", 1, 2);
        gone("lr3;c9;m10;", "0110111", 0, 1);
        gone("lr3;c9;m10;", "011011", 3, 4);
        gone("lr3;c9;m10;", "0110110", 0, 1);
        gone("la2;m10;", "0011", 0, 1);
        gone("la2;m10;", "00111", 1, 2);
        gone("la2;m10;", "001110101", 1, 1);
        TillOneOfSort y = new TillOneOfSort();
        partsOf("16", y, y.gone(-1), y.gone(2), y.gone(Integer.MIN_VALUE), y.gone(Integer.MAX_VALUE));
    }

    private static void promise17() {
        TillOneOfSort x = new TillOneOfSort();
        due("17 none shifts", x.shift(0), 0);
        due("17 none shifts", x.shift(1), 0);
        x.law(5, 1);
        due("17 whichever law there is", x.shift(0), 0);
        TillOneOfSort lean = told("m2;n+5;");
        // t, c, a, r 13/36; e, b 1/2
        due("17 the first of the greatest", lean.shift(0), 3);
        due("17 the first of the least", lean.shift(1), 0);
        lean.law(0, 2);
        due("17 figure 2", lean.shift(0), 1);
        TillOneOfSort back = told("m2;n-5;");
        // t, c, a, r 23/36; e, b 1/2
        due("17 back", back.shift(0), 0);
        due("17 back, least", back.shift(1), 3);
        for (int bad : new int[] {-1, 2, Integer.MIN_VALUE, Integer.MAX_VALUE}) {
            due("17 other", x.shift(bad), -2);
        }
        refusals("17", x, 0, 4);
        due("17 the law is as before", x.count(3), 5);
    }

    private static void promise18() {
        TillOneOfSort x = new TillOneOfSort();
        due("18 none seen", x.fits(0), 63);
        due("18 none seen, could", x.fits(1), 63);
        tell(x, "f01;");
        // t 01, c 01, a (1 ahead: not yet), e 01, r 01, b 01
        due("18 01", x.fits(0), 1 + 2 + 8 + 16 + 32);
        due("18 01, could", x.fits(1), 63);
        tell(x, "f1;");
        due("18 and 1", x.fits(0), 1 + 2 + 16);
        due("18 and 1, could", x.fits(1), 63);
        tell(x, "f011;");
        due("18 and 011", x.fits(0), 0);
        due("18 and 011, could", x.fits(1), 4);
        x.law(0, 2);
        // figure 2: c, a and r go on behind 01 and 1
        due("18 figure 2", x.fits(0), 0);
        due("18 figure 2, could", x.fits(1), 2 + 4 + 16);
        x.set(0, 2);
        due("18 most 2", x.fits(1), 0);
        TillOneOfSort end = told("m3;f000;");
        due("18 at most", end.fits(0), 63);
        end.set(0, 2);
        due("18 above most", end.fits(0), 0);
        due("18 above most, could", end.fits(1), 0);
        end.set(0, 4);
        due("18 below most", end.fits(0), 0);
        due("18 below most, could", end.fits(1), 63);
        for (int bad : new int[] {-1, 2, Integer.MIN_VALUE, Integer.MAX_VALUE}) {
            due("18 other", end.fits(bad), -2);
        }
        refusals("18", end, 0, 4);
    }

    private static void judged(String land, String sorts, int want) {
        TillOneOfSort x = told(land);
        rowOf(x, sorts);
        due("19 " + land + " judges " + sorts, x.judge(), want);
        due("19 the row has none then", x.count(6), 0);
        due("19 no children", x.judge(), -9);
        refusals("19", x);
    }

    private static void promise19() {
        judged("lt1;", "", -9);
        judged("lt1;", "0", -9);
        judged("lt1;", "1", 20);
        judged("lt1;", "01", 20);
        judged("lt1;", "10", 0);
        judged("lt1;", "0011", 2);
        judged("lt1;", "00000", 20);
        judged("lt1;", "000001", 4);
        judged("lt1;m10;", "0000000000", 20);
        judged("lt1;m10;", "0000000010", 8);
        judged("lc2;", "0101", 20);
        judged("lc2;", "01011", 3);
        judged("la1;m9;", "01011", 20);
        judged("le5;m9;", "0111", 1);
        judged("lr2;m9;", "1011", 20);
        judged("lr2;m9;", "1010", -9);
        judged("lb1;m9;", "0001", 20);
        judged("lb1;m9;", "111", -9);
        judged("lb1;m9;", "1101", 2);
        TillOneOfSort x = new TillOneOfSort();
        rowOf(x, "11");
        x.judge();
        rowOf(x, "0");
        due("19 the next row begins anew", x.judge(), -9);
    }

    private static void promise20() {
        TillOneOfSort x = told("f001;f1;f0111111111;");
        due("20 children", x.seen(0, 0), 3);
        due("20 sorts", x.seen(0, 1), 4);
        due("20 children", x.seen(1, 0), 1);
        due("20 sorts", x.seen(1, 1), 1);
        due("20 ten children", x.seen(2, 0), 10);
        due("20 ten sorts", x.seen(2, 1), 1022);
        due("20 none such", x.seen(3, 0), -9);
        due("20 none such", x.seen(8, 1), -9);
        due("20 none such", x.seen(Integer.MAX_VALUE, 1), -9);
        refusals("20 none such", x);
        due("20 below", x.seen(-1, 0), -4);
        due("20 below ahead of other", x.seen(-1, 2), -4);
        due("20 far below", x.seen(Integer.MIN_VALUE, 0), -4);
        for (int bad : new int[] {-1, 2, Integer.MIN_VALUE, Integer.MAX_VALUE}) {
            due("20 other", x.seen(0, bad), -2);
            due("20 other ahead of none such", x.seen(9, bad), -2);
        }
        refusals("20", x, 0, 8, 0, 3);
    }

    private static void promise21() {
        TillOneOfSort x = new TillOneOfSort();
        due("21 none seen", x.cheats(), 0);
        tell(x, "f1;f10;f11;f0;f00000;f000000;f0010;");
        due("21 till", x.cheats(), 4);
        x.law(1, 2);
        due("21 count 2", x.cheats(), 1);
        x.set(0, 10);
        due("21 most 10", x.cheats(), 0);
        x.set(0, 1);
        due("21 most 1", x.cheats(), 5);
    }

    private static void promise22() {
        TillOneOfSort x = new TillOneOfSort();
        due("22 zeros", x.lots(3, 3, 0), 3);
        due("22 ones", x.lots(3, 3, 1), 3);
        // draws from 0 on: 11, 9, 6 and, behind the sign's bit, 11, 1
        due("22 four zeros, then a one", x.lots(1, 0, 0), 4);
        due("22 four zeros, then a one", x.lots(1, 0, 1), 1);
        x.set(1, 7);
        due("22 two zeros, then a one", x.lots(1, 0, 0), 2);
        TillOneOfSort run = told("lr3;m10;c5;n+3;");
        due("22 run, ones", run.lots(40, -7, 1), 99);
        due("22 run, zeros", run.lots(40, -7, 0), 214);
        TillOneOfSort even = told("le3;m10;c4;n-2;");
        due("22 even, ones", even.lots(40, Integer.MAX_VALUE, 1), 67);
        due("22 even, zeros", even.lots(40, Integer.MAX_VALUE, 0), 131);
        TillOneOfSort both = told("lb3;m7;c11;n+5;");
        due("22 both, ones", both.lots(40, Integer.MIN_VALUE, 1), 262);
        due("22 both, zeros", both.lots(40, Integer.MIN_VALUE, 0), 9);
        x.set(0, 1);
        x.set(1, 11);
        due("22 eleven is not less than eleven", x.lots(1, 0, 0), 1);
        due("22 eleven is not less than eleven", x.lots(1, 0, 1), 0);
        for (int z : new int[] {0, 1, -1, Integer.MIN_VALUE, Integer.MAX_VALUE, 123456789}) {
            due("22 forty families of one child", x.lots(40, z, 0) + x.lots(40, z, 1), 40);
        }
        due("22 below", x.lots(0, 0, 0), -4);
        due("22 below ahead of other", x.lots(-1, 0, 2), -4);
        due("22 room", x.lots(41, 0, 0), -6);
        due("22 room ahead of other", x.lots(41, 0, 2), -6);
        due("22 other", x.lots(1, 0, 2), -2);
        due("22 other", x.lots(40, 0, -1), -2);
        due("22 far", x.lots(Integer.MIN_VALUE, 0, 0), -4);
        due("22 far", x.lots(Integer.MAX_VALUE, 0, 0), -6);
        due("22 far", x.lots(1, 0, Integer.MAX_VALUE), -2);
        refusals("22", x, 0, 3, 0, 3, 0, 3);
    }

    private static void promise23() {
        TillOneOfSort x = told("f0;f1;");
        due("23 image", x.image(), 2);
        tell(x, "f1;");
        due("23 a later image", x.image(), 3);
        due("23 on from the later", x.on(), 3);
        refusals("23", x);
    }

    private static void promise24() {
        TillOneOfSort x = told("lr4;m9;c2;n-3;f01;f001;");
        due("24 no image", x.on(), -3);
        refusals("24 no image", x, 0, 0, 1);
        x.row(1);
        x.image();
        due("24 tell another", tell(x, "lb2;m3;c7;n+1;f1;f0;"), 6);
        x.row(1);
        x.row(0);
        x.letter('f');
        x.law(6, 1);
        state("24 before", x, 3, 7, 6, 5, 2, 4, 3, 1);
        due("24 on", x.on(), 2);
        state("24 row and letters stay", x, 9, 2, 2, 4, 4, 2, 3, 1);
        refusals("24 refusals stay", x, 0, 1, 1);
        due("24 family 0", x.seen(0, 1), 2);
        due("24 family 1", x.seen(1, 1), 4);
        due("24 no family 2", x.seen(2, 0), -9);
        due("24 room is as then", x.land(), -1001);
        due("24 room is as then", tell(x, "f1;f1;f1;f1;f1;f1;"), 6);
        due("24 the image stays", x.on(), 2);
        x.law(0, 1);
        due("24 what is told later does not change the image", x.on(), 2);
        due("24 kind", x.count(3), 4);
        TillOneOfSort empty = new TillOneOfSort();
        due("24 an image of none", empty.image(), 0);
        due("24 on from none", empty.on(), 0);
    }

    private static void promise25() {
        TillOneOfSort x = told("le7;m8;c9;n-4;f01;");
        x.row(1);
        x.row(1);
        x.letter('a');
        x.letter('b');
        x.letter('c');
        state("25", x, 8, 9, 1, 3, 7, 1, 2, 3);
        for (int what : new int[] {-1, 8, 9, 10, 17, 18, Integer.MIN_VALUE, Integer.MAX_VALUE}) {
            due("25 count(" + what + ")", x.count(what), -9);
        }
        refusals("25 count refuses nothing", x);
        x.row(2);
        x.on();
        x.on();
        x.letter(-1);
        x.letter(-1);
        x.letter(-1);
        x.letter(256);
        x.share(2);
        x.size(0, 0);
        x.size(11, 0);
        refusals("25", x, 0, 2, 2, 4, 0, 2);
    }

    public static void main(String[] args) throws ReflectiveOperationException {
        runAll(PromisesTest.class);
    }
}
