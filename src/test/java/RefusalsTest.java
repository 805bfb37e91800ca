import java.lang.reflect.InvocationTargetException;
import java.lang.reflect.Method;
import java.util.ArrayList;
import java.util.HashMap;
import java.util.List;
import java.util.Map;

/**
 * Every call with every mix of numbers at the bounds of its arguments, one beside them and far from them: which
 * refusal is told, and that a refused call leaves the object as a twin that was not called, but for one refusal more.
 */
public final class RefusalsTest extends Checks {
    private static final int OTHER = -2;
    private static final int STATE = -3;
    private static final int BELOW = -4;
    private static final int ROOM = -6;
    private static final Map<String, Method> METHODS = new HashMap<>();

    /** What an argument may be, and what refuses a number below or above. */
    private static final class Range {
        final int least;
        final int greatest;
        final int below;
        final int above;

        Range(int least, int greatest, int below, int above) {
            this.least = least;
            this.greatest = greatest;
            this.below = below;
            this.above = above;
        }

        /** The refusal of a number; 0, if it is taken. */
        int refusal(int v) {
            return v < least ? below : v > greatest ? above : 0;
        }

        int[] numbers() {
            return new int[] {MIN, least - 1, least, greatest, greatest + 1, MAX};
        }
    }

    /** A number that tells which: all others are OTHER. */
    private static Range which(int greatest) {
        return new Range(0, greatest, OTHER, OTHER);
    }

    /** A number with a least and a greatest. */
    private static Range from(int least, int greatest) {
        return new Range(least, greatest, BELOW, ROOM);
    }

    private static int[] order(int... numbers) {
        return numbers;
    }

    private static long call(TillOneOfSort x, String name, int[] v) {
        Object[] arguments = new Object[v.length];
        for (int i = 0; i < v.length; i++) {
            arguments[i] = v[i];
        }
        try {
            return ((Number) METHODS.get(name).invoke(x, arguments)).longValue();
        } catch (InvocationTargetException | IllegalAccessException failed) {
            throw new IllegalStateException(name + " throws", failed);
        }
    }

    private static boolean isLong(String name) {
        return METHODS.get(name).getReturnType() == long.class;
    }

    /** An object in which all that can be told is told and nothing is as at first. */
    private static TillOneOfSort busy() {
        TillOneOfSort x = told("lr3;m4;c5;n-2;f0;");
        x.image();
        tell(x, "lc2;m6;c4;n+1;f01;f1101;");
        rowOf(x, "01");
        letters(x, "lb");
        return x;
    }

    /** What an object says of all that it holds; it may be that nothing is left of it then. */
    private static List<Long> readings(TillOneOfSort x) {
        List<Long> all = new ArrayList<>();
        for (int what = 0; what <= 7; what++) {
            all.add((long) x.count(what));
        }
        for (int i = 0; i < 8; i++) {
            all.add((long) x.seen(i, 0));
            all.add((long) x.seen(i, 1));
        }
        for (int part = 0; part <= 1; part++) {
            all.add(x.mean(0, part));
            all.add(x.mean(1, part));
            all.add(x.gone(part));
        }
        all.add((long) x.fits(1));
        all.add((long) x.lots(7, 7, 1));
        letters(x, "4;");
        all.add((long) x.land());
        all.add((long) x.law(0, 1));
        all.add((long) x.judge());
        all.add((long) x.on());
        for (int what = 0; what <= 7; what++) {
            all.add((long) x.count(what));
        }
        return all;
    }

    private static final List<Long> UNTOUCHED = new ArrayList<>();

    private static void askOnce(String name, int[] v, int refusal) {
        TillOneOfSort x = busy();
        String what = name + java.util.Arrays.toString(v);
        long answer = call(x, name, v);
        if (refusal == 0) {
            boolean refused = isLong(name) ? answer >= FOUR
                : answer == OTHER || answer == STATE || answer == BELOW || answer == ROOM;
            holds(what + " is taken, it answers " + answer, !refused);
            refusals(what + " is taken", x);
            return;
        }
        due(what, answer, isLong(name) ? FOUR - refusal : refusal);
        int[] counts = new int[6];
        counts[-1 - refusal] = 1;
        refusals(what, x, counts);
        holds(what + " changes nothing", readings(x).equals(UNTOUCHED));
    }

    /** All mixes of the numbers of all ranges; of the refusals that fit, the first of the order is due. */
    private static void askAll(String name, int[] order, Range... ranges) {
        int[] places = new int[ranges.length];
        int[] v = new int[ranges.length];
        boolean more = true;
        while (more) {
            for (int i = 0; i < v.length; i++) {
                v[i] = ranges[i].numbers()[places[i]];
            }
            askOnce(name, v.clone(), due(order, ranges, v));
            more = false;
            for (int i = 0; i < places.length && !more; i++) {
                places[i] = (places[i] + 1) % 6;
                more = places[i] != 0;
            }
        }
    }

    private static int due(int[] order, Range[] ranges, int[] v) {
        for (int refusal : order) {
            for (int i = 0; i < v.length; i++) {
                if (ranges[i].refusal(v[i]) == refusal) {
                    return refusal;
                }
            }
        }
        return 0;
    }

    private static void promise02() {
        askAll("letter", order(BELOW, ROOM), from(0, 255));
    }

    private static void promise04() {
        askAll("law", order(OTHER, BELOW, ROOM), which(5), from(1, 9));
    }

    private static void promise05() {
        Range[] ofNumbers = {from(1, 10), from(1, 11), from(0, 10)};
        for (int what = 0; what < ofNumbers.length; what++) {
            for (int v : ofNumbers[what].numbers()) {
                askOnce("set", new int[] {what, v}, ofNumbers[what].refusal(v));
            }
        }
        for (int what : new int[] {MIN, -1, 3, MAX}) {
            for (int v : new int[] {MIN, -1, 0, 1, 10, 11, 12, MAX}) {
                askOnce("set", new int[] {what, v}, OTHER);
            }
        }
    }

    private static void promise06() {
        int[] numbers = {MIN, -1, 0, 1, 2, 9, 10, 11, MAX};
        for (int ones : numbers) {
            for (int zeros : numbers) {
                for (int run : numbers) {
                    boolean below = Math.min(ones, Math.min(zeros, run)) < 0;
                    boolean above = Math.max(ones, Math.max(zeros, run)) > 10;
                    boolean none = ones == 0 && zeros == 0;
                    boolean off = run > ones || none || run == 0 && zeros == 0;
                    askOnce("stops", new int[] {ones, zeros, run}, below ? BELOW : above ? ROOM : off ? STATE : 0);
                }
            }
        }
    }

    private static void promise07() {
        askAll("mean", order(OTHER), which(2), which(1));
    }

    private static void promise08() {
        askAll("share", order(OTHER), which(1));
    }

    private static void promise09() {
        askAll("all", order(OTHER), which(1));
    }

    private static void promise10() {
        askAll("more", order(OTHER), which(2), which(1));
    }

    private static void promise11() {
        askAll("size", order(BELOW, ROOM, OTHER), from(1, 10), which(1));
    }

    private static void promise12() {
        askAll("met", order(OTHER), which(1), which(1));
    }

    private static void promise13() {
        askAll("says", order(BELOW, ROOM, OTHER), which(1), from(0, 9), from(0, 9), which(1), which(1));
    }

    private static void promise14() {
        askAll("trial", order(BELOW, ROOM, OTHER), from(1, 10), from(1, 9), which(1));
    }

    private static void promise15() {
        askAll("row", order(OTHER), which(1));
    }

    private static void promise16() {
        askAll("gone", order(OTHER), which(1));
    }

    private static void promise17() {
        askAll("shift", order(OTHER), which(1));
    }

    private static void promise18() {
        askAll("fits", order(OTHER), which(1));
    }

    /** No number is too large for a family: there is none such, and that is no refusal. */
    private static void promise20() {
        askAll("seen", order(BELOW, OTHER), new Range(0, MAX - 1, BELOW, 0), which(1));
    }

    /** A seed may be any number. */
    private static void promise22() {
        Range seeds = new Range(-1, 1, 0, 0);
        askAll("lots", order(BELOW, ROOM, OTHER), from(1, 40), seeds, which(1));
    }

    /** What may be any number: no count is refused. */
    private static void promise25() {
        for (int what = -20; what <= 20; what++) {
            askOnce("count", new int[] {what}, 0);
        }
        askAll("count", order(), new Range(0, 16, 0, 0));
    }

    /** These take nothing: nothing of them is refused while there is an image. */
    private static void callsWithoutNumbers() {
        for (String name : new String[] {"land", "judge", "cheats", "image", "on"}) {
            askOnce(name, new int[0], 0);
        }
    }

    private static void refusalsAreCountedOneByOne() {
        TillOneOfSort x = busy();
        for (int times = 1; times <= 60; times++) {
            x.mean(3, 0);
            x.stops(0, 0, 0);
            x.lots(0, 0, 0);
            x.size(11, 0);
            refusals("after " + times, x, 0, times, times, times, 0, times);
        }
        holds("sixty of each change nothing", readings(x).equals(UNTOUCHED));
    }

    public static void main(String[] args) throws ReflectiveOperationException {
        for (Method method : TillOneOfSort.class.getDeclaredMethods()) {
            if (java.lang.reflect.Modifier.isPublic(method.getModifiers())) {
                METHODS.put(method.getName(), method);
            }
        }
        UNTOUCHED.addAll(readings(busy()));
        runAll(RefusalsTest.class);
    }
}
