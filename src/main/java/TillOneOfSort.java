import java.util.Arrays;

/**
 * Until it is one of that sort: a land whose families have children of two sorts till a law stops them.
 * What it answers is told, promise by promise, in ../shared/DOC.md.
 */
public final class TillOneOfSort {
    private static final int TILL = 0;
    private static final int COUNT = 1;
    private static final int AHEAD = 2;
    private static final int EVEN = 3;
    private static final int RUN = 4;
    private static final int BOTH = 5;
    private static final int KINDS = 6;

    private static final int OTHER = -2;
    private static final int STATE = -3;
    private static final int BELOW = -4;
    private static final int ROOM = -6;
    private static final int NUMBERS_OF_REFUSALS = 6;
    private static final long LONG_REFUSAL = 4000000000000000000L;
    private static final int NONE = -9;

    private static final int FAULT_OF_LETTER = -1000;
    private static final int FAULT_OF_STATEMENT = -2000;
    private static final int AT_AN_END = 20;

    private static final int GREATEST_LETTER = 255;
    private static final int MOST_LETTERS = 64;
    private static final int MOST_SEEN = 8;
    private static final int MOST_CHILDREN = 10;
    private static final int MOST_FIGURE = 9;
    private static final int MOST_SIBLINGS = 9;
    private static final int MOST_LOTS = 40;

    private static final int SET_MOST = 0;
    private static final int SET_CHANCE = 1;
    private static final int SET_LEAN = 2;
    /** So much is LEAN more where it is told as a number from 0. */
    private static final int LEAN_AT_ZERO = 5;
    private static final int TWELFTHS = 12;

    private static final int COUNT_KIND = 3;
    private static final int COUNT_FIGURE = 4;
    private static final int COUNT_FAMILIES = 5;
    private static final int COUNT_ROW = 6;
    private static final int COUNT_LETTERS = 7;
    /** Where the refusals begin, those of -1 first. */
    private static final int COUNT_REFUSALS = 11;

    private static final int CHILDREN = 0;
    private static final int ONES = 1;
    private static final int ZEROS = 2;
    private static final int MORE_ONES = 3;
    private static final int AS_MANY = 4;
    private static final int FEWER_ONES = 5;
    private static final int SHARES = 6;
    private static final int OF_SIZE = 7;
    private static final int CHILDREN_WITH_MORE_ONES = 8;
    private static final int ONES_WITH_ONES = 9;
    private static final int AHEAD_BY = 10;

    /** Every number of children a family can have divides it. */
    private static final int SHARE_UNIT = 2520;
    private static final long WHOLE = 61917364224L;
    /** What a child more leaves of WHOLE: 12 to the power of the children that are still to come. */
    private static final long[] UNITS = {
        61917364224L, 5159780352L, 429981696L, 35831808L, 2985984L, 248832L, 20736L, 1728L, 144L, 12L, 1L
    };

    /** Above all steps that dividing longs by their rests can take. */
    private static final int STEPS_OF_DIVIDING = 200;

    private final Told told = new Told();
    private final Told draft = new Told();
    private final Told kept = new Told();
    private boolean isKept;
    private final Text text = new Text();
    private int rowLength;
    private int rowSorts;
    private final int[] refusals = new int[NUMBERS_OF_REFUSALS];
    private final Tally[] tallies = new Tally[KINDS];
    private final Tally spare;

    public TillOneOfSort() {
        Walk walk = new Walk();
        for (int kind = 0; kind < tallies.length; kind++) {
            tallies[kind] = new Tally(walk);
        }
        spare = new Tally(walk);
    }

    public int letter(int c) {
        if (c < 0) {
            return refuse(BELOW);
        }
        if (c > GREATEST_LETTER || text.length >= MOST_LETTERS) {
            return refuse(ROOM);
        }
        text.append(c);
        return text.length;
    }

    public int land() {
        int fault = text.firstFault();
        int answer = fault >= 0 ? FAULT_OF_LETTER - fault : tellText();
        text.length = 0;
        return answer;
    }

    public int law(int kind, int figure) {
        if (kind < 0 || kind >= KINDS) {
            return refuse(OTHER);
        }
        if (figure < 1) {
            return refuse(BELOW);
        }
        if (figure > MOST_FIGURE) {
            return refuse(ROOM);
        }
        int before = 10 * told.kind + told.figure;
        told.kind = kind;
        told.figure = figure;
        return before;
    }

    public int set(int what, int v) {
        if (what < SET_MOST || what > SET_LEAN) {
            return refuse(OTHER);
        }
        if (v < Told.least(what)) {
            return refuse(BELOW);
        }
        if (v > Told.greatest(what)) {
            return refuse(ROOM);
        }
        int before = told.number(what);
        told.tellNumber(what, v);
        return before;
    }

    public int stops(int ones, int zeros, int run) {
        if (ones < 0 || zeros < 0 || run < 0) {
            return refuse(BELOW);
        }
        if (ones > MOST_CHILDREN || zeros > MOST_CHILDREN || run > MOST_CHILDREN) {
            return refuse(ROOM);
        }
        if (run > ones || ones == 0 && zeros == 0 || run == 0 && zeros == 0) {
            return refuse(STATE);
        }
        return lawStops(told.kind, told.figure, ones, zeros, run) ? 1 : 0;
    }

    public long mean(int what, int part) {
        if (what < CHILDREN || what > ZEROS || isNoBit(part)) {
            return refuseLong(OTHER);
        }
        return fraction(tallyNow().sum(what, 0), WHOLE, part);
    }

    public long share(int part) {
        if (isNoBit(part)) {
            return refuseLong(OTHER);
        }
        return fraction(tallyNow().sum(SHARES, 0), WHOLE * SHARE_UNIT, part);
    }

    public long all(int part) {
        if (isNoBit(part)) {
            return refuseLong(OTHER);
        }
        Tally tally = tallyNow();
        return fraction(tally.sum(ONES, 0), tally.sum(CHILDREN, 0), part);
    }

    public long more(int what, int part) {
        if (what < 0 || what > FEWER_ONES - MORE_ONES || isNoBit(part)) {
            return refuseLong(OTHER);
        }
        return fraction(tallyNow().sum(MORE_ONES + what, 0), WHOLE, part);
    }

    public long size(int n, int part) {
        if (n < 1) {
            return refuseLong(BELOW);
        }
        if (n > MOST_CHILDREN) {
            return refuseLong(ROOM);
        }
        if (isNoBit(part)) {
            return refuseLong(OTHER);
        }
        return fraction(tallyNow().sum(OF_SIZE, n), WHOLE, part);
    }

    public long met(int what, int part) {
        if (isNoBit(what) || isNoBit(part)) {
            return refuseLong(OTHER);
        }
        Tally tally = tallyNow();
        int measure = what == 0 ? CHILDREN_WITH_MORE_ONES : ONES_WITH_ONES;
        return fraction(tally.sum(measure, 0), tally.sum(CHILDREN, 0), part);
    }

    public long says(int sort, int a, int b, int what, int part) {
        if (a < 0 || b < 0) {
            return refuseLong(BELOW);
        }
        if (a > MOST_SIBLINGS || b > MOST_SIBLINGS) {
            return refuseLong(ROOM);
        }
        if (isNoBit(sort) || isNoBit(what) || isNoBit(part)) {
            return refuseLong(OTHER);
        }
        Tally tally = tallyNow();
        int ones = a + sort;
        int zeros = b + 1 - sort;
        long sayers = tally.families(ones, zeros) * (sort == 1 ? ones : zeros);
        if (what == 0) {
            return fraction(sayers, tally.sum(CHILDREN, 0), part);
        }
        return fraction(tally.familiesFrom(sort, ones, zeros), sayers, part);
    }

    public long trial(int n, int d, int part) {
        if (n < 1 || d < 1) {
            return refuseLong(BELOW);
        }
        if (n > MOST_CHILDREN || d > MOST_FIGURE) {
            return refuseLong(ROOM);
        }
        if (isNoBit(part)) {
            return refuseLong(OTHER);
        }
        // A trial is a family that stops when it looks good, with n children at most.
        spare.retell(AHEAD, d, n, told.chance, told.lean);
        return fraction(spare.sum(AHEAD_BY, d), WHOLE, part);
    }

    public int row(int sort) {
        if (isNoBit(sort)) {
            return refuse(OTHER);
        }
        if (rowLength >= MOST_CHILDREN) {
            return refuse(ROOM);
        }
        rowSorts |= sort << rowLength;
        rowLength++;
        return rowLength;
    }

    public long gone(int part) {
        if (isNoBit(part)) {
            return refuseLong(OTHER);
        }
        return fraction(lastInTwelfths(), TWELFTHS, part);
    }

    public int shift(int least) {
        if (isNoBit(least)) {
            return refuse(OTHER);
        }
        int best = 0;
        for (int kind = 1; kind < KINDS; kind++) {
            int order = compareAll(kind, best);
            if (least == 0 ? order > 0 : order < 0) {
                best = kind;
            }
        }
        return best;
    }

    public int fits(int could) {
        if (isNoBit(could)) {
            return refuse(OTHER);
        }
        int bits = 0;
        for (int kind = 0; kind < KINDS; kind++) {
            boolean fit = could == 0 ? told.endsAllSeen(kind) : told.countStoppedAhead(kind) == 0;
            if (fit) {
                bits |= 1 << kind;
            }
        }
        return bits;
    }

    public int judge() {
        int stop = told.stopPlace(told.kind, rowLength, rowSorts);
        int length = rowLength;
        rowLength = 0;
        rowSorts = 0;
        if (stop >= length) {
            return NONE;
        }
        return stop == length - 1 ? AT_AN_END : stop;
    }

    public int seen(int i, int what) {
        if (i < 0) {
            return refuse(BELOW);
        }
        if (isNoBit(what)) {
            return refuse(OTHER);
        }
        if (i >= told.families) {
            return NONE;
        }
        return what == 0 ? told.lengthOf(i) : told.sortsOf(i);
    }

    public int cheats() {
        return told.countStoppedAhead(told.kind);
    }

    public int lots(int n, int z, int sort) {
        if (n < 1) {
            return refuse(BELOW);
        }
        if (n > MOST_LOTS) {
            return refuse(ROOM);
        }
        if (isNoBit(sort)) {
            return refuse(OTHER);
        }
        return countLots(n, z, sort);
    }

    public int image() {
        kept.copy(told);
        isKept = true;
        return kept.families;
    }

    public int on() {
        if (!isKept) {
            return refuse(STATE);
        }
        told.copy(kept);
        return told.families;
    }

    public int count(int what) {
        switch (what) {
            case SET_MOST:
            case SET_CHANCE:
            case SET_LEAN:
                return told.number(what);
            case COUNT_KIND:
                return told.kind;
            case COUNT_FIGURE:
                return told.figure;
            case COUNT_FAMILIES:
                return told.families;
            case COUNT_ROW:
                return rowLength;
            case COUNT_LETTERS:
                return text.length;
            default:
                return what >= COUNT_REFUSALS ? refusalsAt(what - COUNT_REFUSALS) : NONE;
        }
    }

    private int refusalsAt(int place) {
        return place >= 0 && place < refusals.length ? refusals[place] : NONE;
    }

    private int refuse(int number) {
        int place = -1 - number;
        if (place >= 0 && place < refusals.length) {
            refusals[place]++;
        }
        return number;
    }

    private long refuseLong(int number) {
        return LONG_REFUSAL - refuse(number);
    }

    /** Sorts, the parts of a fraction and which of two things is asked are all told by 0 and 1. */
    private static boolean isNoBit(int number) {
        return number < 0 || number > 1;
    }

    /** The statements of a text without a fault of its letters become what is told, or none of them does. */
    private int tellText() {
        draft.copy(told);
        int place = 0;
        int statements = 0;
        while (place < text.length && statements < MOST_LETTERS) {
            int end = text.endOfStatement(place);
            if (!draft.take(text, place, end)) {
                return FAULT_OF_STATEMENT - place;
            }
            place = end;
            statements++;
        }
        told.copy(draft);
        return statements;
    }

    private Tally tallyNow() {
        return tallyOf(told.kind);
    }

    /** All families there can be under a kind, all else as it is told. */
    private Tally tallyOf(int kind) {
        Tally tally = kind >= 0 && kind < tallies.length ? tallies[kind] : null;
        if (tally == null) {
            tally = spare;
        }
        tally.retell(kind, told.figure, told.most, told.chance, told.lean);
        return tally;
    }

    /** Above 0, if all children's part of sort 1 is greater by this kind than by that one; below 0, if less. */
    private int compareAll(int kind, int other) {
        Tally these = tallyOf(kind);
        Tally those = tallyOf(other);
        return compareFractions(
            these.sum(ONES, 0), these.sum(CHILDREN, 0), those.sum(ONES, 0), those.sum(CHILDREN, 0));
    }

    /** Of how many twelfths the child behind the row would be the last. */
    private int lastInTwelfths() {
        if (told.stopPlace(told.kind, rowLength, rowSorts) < rowLength) {
            return 0;
        }
        if (rowLength + 1 >= told.most) {
            return TWELFTHS;
        }
        int ones = Integer.bitCount(rowSorts);
        int zeros = rowLength - ones;
        int run = latestOnes(rowLength, rowSorts);
        int twelfths = chanceOfOne(told.chance, told.lean, rowLength, run);
        int last = 0;
        if (lawStops(told.kind, told.figure, ones + 1, zeros, run + 1)) {
            last += twelfths;
        }
        if (lawStops(told.kind, told.figure, ones, zeros + 1, 0)) {
            last += TWELFTHS - twelfths;
        }
        return last;
    }

    private int countLots(int n, int z, int sort) {
        int seed = z;
        int total = 0;
        for (int family = 0; family < n; family++) {
            int ones = 0;
            int run = 0;
            int children = 0;
            boolean stopped = false;
            while (children < told.most && !stopped) {
                seed = seed * 1664525 + 1013904223;
                int drawn = (seed & 0x7fffffff) / 256 % TWELFTHS;
                boolean isOne = drawn < chanceOfOne(told.chance, told.lean, children, run);
                children++;
                ones += isOne ? 1 : 0;
                run = isOne ? run + 1 : 0;
                stopped = lawStops(told.kind, told.figure, ones, children - ones, run);
            }
            total += sort == 1 ? ones : children - ones;
        }
        return total;
    }

    /** How many of the youngest children in a row are all of sort 1. */
    private static int latestOnes(int length, int sorts) {
        int run = 0;
        for (int i = 0; i < length; i++) {
            run = (sorts >> i & 1) == 1 ? run + 1 : 0;
        }
        return run;
    }

    /** Whether a law stops behind the latest child, however many children there may be at most. */
    private static boolean lawStops(int kind, int figure, int ones, int zeros, int run) {
        switch (kind) {
            case TILL:
                return run > 0;
            case COUNT:
                return ones >= figure;
            case AHEAD:
                return ones - zeros == figure;
            case EVEN:
                return ones == zeros;
            case RUN:
                return run >= figure;
            case BOTH:
                return ones > 0 && zeros > 0;
            default:
                return true;
        }
    }

    /** Of how many twelfths the next child is of sort 1, behind so many, the latest run of them of sort 1. */
    private static int chanceOfOne(int chance, int lean, int children, int run) {
        if (children == 0) {
            return chance;
        }
        int leaning = run > 0 ? chance + lean : chance - lean;
        return Math.max(0, Math.min(TWELFTHS, leaning));
    }

    /** A part of a fraction in least terms: above the line for part 0, else below; 0 by 1, if it is none. */
    private static long fraction(long above, long below, int part) {
        long divisor = greatestDivisor(above, below);
        if (above == 0 || below == 0 || divisor == 0) {
            return part == 0 ? 0 : 1;
        }
        return (part == 0 ? above : below) / divisor;
    }

    private static long greatestDivisor(long one, long other) {
        long divisor = one;
        long rest = other;
        for (int step = 0; step < STEPS_OF_DIVIDING && rest != 0; step++) {
            long next = divisor % rest;
            divisor = rest;
            rest = next;
        }
        return divisor;
    }

    /**
     * Which of two fractions is greater (1 the first, -1 the second, 0 neither), by their whole numbers, then by
     * what is left of them, turned over: multiplied crosswise they would be too large for a long.
     */
    private static int compareFractions(long above, long below, long otherAbove, long otherBelow) {
        long a = above;
        long b = below;
        long c = otherAbove;
        long d = otherBelow;
        for (int step = 0; step < STEPS_OF_DIVIDING; step++) {
            if (b == 0 || d == 0) {
                return (b == 0 ? 1 : 0) - (d == 0 ? 1 : 0);
            }
            if (a / b != c / d) {
                return a / b > c / d ? 1 : -1;
            }
            long rest = a % b;
            long otherRest = c % d;
            a = d;
            c = b;
            b = otherRest;
            d = rest;
        }
        return 0;
    }

    /** The letters of a land that is not told yet. */
    private static final class Text {
        private final int[] letters = new int[MOST_LETTERS];
        private int length;

        void append(int c) {
            if (length >= 0 && length < letters.length) {
                letters[length] = c;
                length++;
            }
        }

        /** A letter; -1 behind the end. */
        int at(int place) {
            return place >= 0 && place < length && place < letters.length ? letters[place] : -1;
        }

        /** The place of the first letter with which no land can go on; -1, if it is a land. */
        int firstFault() {
            int place = 0;
            int statements = 0;
            do {
                int end = endOfStatement(place);
                if (end < 0) {
                    return -1 - end;
                }
                place = end;
                statements++;
            } while (place < length && statements < MOST_LETTERS);
            return -1;
        }

        /** The place behind the statement that begins at a place; -1 less the place where it can't go on. */
        int endOfStatement(int place) {
            int end;
            switch (at(place)) {
                case 'l':
                    end = kindAt(place + 1) < 0 ? -1 - (place + 1) : endOfDigits(place + 2, '9', 1);
                    break;
                case 'm':
                case 'c':
                    end = endOfDigits(place + 1, '9', 2);
                    break;
                case 'n':
                    end = isSign(at(place + 1)) ? endOfDigits(place + 2, '9', 1) : -1 - (place + 1);
                    break;
                case 'f':
                    end = endOfDigits(place + 1, '1', MOST_CHILDREN);
                    break;
                default:
                    end = -1 - place;
                    break;
            }
            if (end < 0) {
                return end;
            }
            return at(end) == ';' ? end + 1 : -1 - end;
        }

        private static boolean isSign(int letter) {
            return letter == '+' || letter == '-';
        }

        /** The place behind the digits, 0 to the greatest, so many at most; -1 less the place, if there is none. */
        private int endOfDigits(int place, int greatest, int most) {
            int end = place;
            while (end - place < most && at(end) >= '0' && at(end) <= greatest) {
                end++;
            }
            return end == place ? -1 - place : end;
        }

        /** The kind that a letter tells; -1, if it tells none. */
        int kindAt(int place) {
            switch (at(place)) {
                case 't':
                    return TILL;
                case 'c':
                    return COUNT;
                case 'a':
                    return AHEAD;
                case 'e':
                    return EVEN;
                case 'r':
                    return RUN;
                case 'b':
                    return BOTH;
                default:
                    return -1;
            }
        }

        int numberAt(int place, int end) {
            int number = 0;
            for (int i = place; i < end; i++) {
                number = 10 * number + at(i) - '0';
            }
            return number;
        }
    }

    /** All that is told of a land: what an image keeps. */
    private static final class Told {
        private int kind = TILL;
        private int figure = 1;
        private int most = 5;
        private int chance = 6;
        private int lean;
        private int families;
        private final int[] lengths = new int[MOST_SEEN];
        private final int[] sorts = new int[MOST_SEEN];

        void copy(Told other) {
            kind = other.kind;
            figure = other.figure;
            most = other.most;
            chance = other.chance;
            lean = other.lean;
            families = other.families;
            for (int i = 0; i < lengths.length && i < sorts.length; i++) {
                lengths[i] = other.lengthOf(i);
                sorts[i] = other.sortsOf(i);
            }
        }

        static int least(int what) {
            return what == SET_LEAN ? 0 : 1;
        }

        static int greatest(int what) {
            return what == SET_CHANCE ? TWELFTHS - 1 : MOST_CHILDREN;
        }

        int number(int what) {
            if (what == SET_LEAN) {
                return LEAN_AT_ZERO + lean;
            }
            return what == SET_CHANCE ? chance : most;
        }

        /** Whether the number is in its range: then it is told. */
        boolean tellNumber(int what, int v) {
            if (v < least(what) || v > greatest(what)) {
                return false;
            }
            if (what == SET_LEAN) {
                lean = v - LEAN_AT_ZERO;
            } else if (what == SET_CHANCE) {
                chance = v;
            } else {
                most = v;
            }
            return true;
        }

        /** Whether a statement of a text is as it must be: then it is told. */
        boolean take(Text text, int place, int end) {
            int digitsEnd = end - 1;
            switch (text.at(place)) {
                case 'l':
                    return takeLaw(text.kindAt(place + 1), text.numberAt(place + 2, digitsEnd));
                case 'm':
                    return tellNumber(SET_MOST, text.numberAt(place + 1, digitsEnd));
                case 'c':
                    return tellNumber(SET_CHANCE, text.numberAt(place + 1, digitsEnd));
                case 'n':
                    int leaning = text.numberAt(place + 2, digitsEnd);
                    int signed = text.at(place + 1) == '-' ? -leaning : leaning;
                    return tellNumber(SET_LEAN, LEAN_AT_ZERO + signed);
                case 'f':
                    return takeFamily(text, place + 1, digitsEnd);
                default:
                    return false;
            }
        }

        private boolean takeLaw(int newKind, int newFigure) {
            if (newKind < 0 || newFigure < 1 || newFigure > MOST_FIGURE) {
                return false;
            }
            kind = newKind;
            figure = newFigure;
            return true;
        }

        private boolean takeFamily(Text text, int place, int end) {
            if (families < 0 || families >= lengths.length || families >= sorts.length) {
                return false;
            }
            int bits = 0;
            for (int i = place; i < end; i++) {
                if (text.at(i) == '1') {
                    bits |= 1 << i - place;
                }
            }
            lengths[families] = end - place;
            sorts[families] = bits;
            families++;
            return true;
        }

        int lengthOf(int i) {
            return i >= 0 && i < lengths.length ? lengths[i] : 0;
        }

        int sortsOf(int i) {
            return i >= 0 && i < sorts.length ? sorts[i] : 0;
        }

        /** The first child behind which a kind of law stops, 0 the eldest; the length, if it stops behind none. */
        int stopPlace(int ofKind, int length, int bits) {
            int ones = 0;
            int run = 0;
            for (int i = 0; i < length; i++) {
                boolean isOne = (bits >> i & 1) == 1;
                ones += isOne ? 1 : 0;
                run = isOne ? run + 1 : 0;
                if (i + 1 >= most || lawStops(ofKind, figure, ones, i + 1 - ones, run)) {
                    return i;
                }
            }
            return length;
        }

        /** Whether all families seen are just where a kind of law stops. */
        boolean endsAllSeen(int ofKind) {
            for (int i = 0; i < families; i++) {
                if (stopPlace(ofKind, lengthOf(i), sortsOf(i)) != lengthOf(i) - 1) {
                    return false;
                }
            }
            return true;
        }

        /** How many families seen a kind of law would have stopped ahead of their end. */
        int countStoppedAhead(int ofKind) {
            int stopped = 0;
            for (int i = 0; i < families; i++) {
                if (stopPlace(ofKind, lengthOf(i), sortsOf(i)) < lengthOf(i) - 1) {
                    stopped++;
                }
            }
            return stopped;
        }
    }

    /** Cells of numbers by the sort of the eldest and by two numbers of children. */
    private static final class Cells {
        private static final int SIDE = MOST_CHILDREN + 1;
        private final long[] cells = new long[2 * SIDE * SIDE];

        /** A cell's place; -1, if there is none. */
        private static int placeOf(int eldest, int ones, int other) {
            if (eldest < 0 || eldest > 1 || ones < 0 || ones >= SIDE || other < 0 || other >= SIDE) {
                return -1;
            }
            return (eldest * SIDE + ones) * SIDE + other;
        }

        long at(int eldest, int ones, int other) {
            int place = placeOf(eldest, ones, other);
            return place >= 0 && place < cells.length ? cells[place] : 0;
        }

        void add(int eldest, int ones, int other, long much) {
            int place = placeOf(eldest, ones, other);
            if (place >= 0 && place < cells.length) {
                cells[place] += much;
            }
        }

        void clear() {
            Arrays.fill(cells, 0L);
        }
    }

    /** The families that go on, child by child: by the eldest's sort, those of sort 1 and the latest of sort 1. */
    private static final class Walk {
        private Cells here = new Cells();
        private Cells next = new Cells();

        void begin(int chance) {
            here.clear();
            next.clear();
            here.add(1, 1, 1, chance);
            here.add(0, 0, 0, TWELFTHS - chance);
        }

        void stepOn() {
            Cells past = here;
            here = next;
            next = past;
            next.clear();
        }
    }

    /** How likely families are to end with so many children of each sort, and the eldest of one, in parts of WHOLE. */
    private static final class Tally {
        private final Walk walk;
        private final Cells ends = new Cells();
        private int kind = -1;
        private int figure;
        private int most;
        private int chance;
        private int lean;

        Tally(Walk walk) {
            this.walk = walk;
        }

        /** It is told anew only if something changed: many questions are asked of the same land. */
        void retell(int newKind, int newFigure, int newMost, int newChance, int newLean) {
            if (kind == newKind && figure == newFigure && most == newMost && chance == newChance && lean == newLean) {
                return;
            }
            kind = newKind;
            figure = newFigure;
            most = newMost;
            chance = newChance;
            lean = newLean;
            ends.clear();
            walk.begin(chance);
            for (int children = 1; children <= most; children++) {
                for (int ones = 0; ones <= children; ones++) {
                    for (int run = 0; run <= ones; run++) {
                        goOn(0, children, ones, run);
                        goOn(1, children, ones, run);
                    }
                }
                walk.stepOn();
            }
        }

        /** Families that are alike end, or have one child more. */
        private void goOn(int eldest, int children, int ones, int run) {
            long much = walk.here.at(eldest, ones, run);
            if (much == 0) {
                return;
            }
            int zeros = children - ones;
            if (children >= most || lawStops(kind, figure, ones, zeros, run)) {
                long unit = children >= 0 && children < UNITS.length ? UNITS[children] : 0;
                ends.add(eldest, ones, zeros, much * unit);
                return;
            }
            int twelfths = chanceOfOne(chance, lean, children, run);
            walk.next.add(eldest, ones + 1, run + 1, much * twelfths);
            walk.next.add(eldest, ones, 0, much * (TWELFTHS - twelfths));
        }

        long families(int ones, int zeros) {
            return ends.at(0, ones, zeros) + ends.at(1, ones, zeros);
        }

        long familiesFrom(int eldest, int ones, int zeros) {
            return ends.at(eldest, ones, zeros);
        }

        /** What a measure comes to over all families, each as likely as it is. */
        long sum(int measure, int n) {
            long sum = 0;
            for (int ones = 0; ones <= most; ones++) {
                for (int zeros = 0; zeros <= most - ones; zeros++) {
                    long much = families(ones, zeros);
                    if (much != 0) {
                        sum += much * measured(measure, n, ones, zeros);
                    }
                }
            }
            return sum;
        }

        private static long measured(int measure, int n, int ones, int zeros) {
            int children = ones + zeros;
            switch (measure) {
                case CHILDREN:
                    return children;
                case ONES:
                    return ones;
                case ZEROS:
                    return zeros;
                case MORE_ONES:
                    return ones > zeros ? 1 : 0;
                case AS_MANY:
                    return ones == zeros ? 1 : 0;
                case FEWER_ONES:
                    return ones < zeros ? 1 : 0;
                case SHARES:
                    return children == 0 ? 0 : ones * (SHARE_UNIT / children);
                case OF_SIZE:
                    return children == n ? 1 : 0;
                case CHILDREN_WITH_MORE_ONES:
                    return ones > zeros ? children : 0;
                case ONES_WITH_ONES:
                    return ones > 1 ? ones : 0;
                case AHEAD_BY:
                    return ones - zeros == n ? 1 : 0;
                default:
                    return 0;
            }
        }
    }
}
