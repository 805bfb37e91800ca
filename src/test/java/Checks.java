import java.lang.reflect.InvocationTargetException;
import java.lang.reflect.Method;
import java.lang.reflect.Modifier;
import java.util.Map;
import java.util.TreeMap;

/** What tests share, who extend it: answers that are due, lands that are told, and a run of all tests of a class. */
class Checks {
    static final long FOUR = 4000000000000000000L;
    static final int MIN = Integer.MIN_VALUE;
    static final int MAX = Integer.MAX_VALUE;
    private static int wrong = 0;
    private static int asked = 0;

    static void due(String what, long got, long want) {
        asked++;
        if (got != want) {
            wrong++;
            System.out.println(what + " answered " + got + ", due is " + want);
        }
    }

    static void holds(String what, boolean so) {
        asked++;
        if (!so) {
            wrong++;
            System.out.println("not so: " + what);
        }
    }

    /** A fraction's two parts against those that are due. */
    static void fraction(String what, long above, long below, long wantAbove, long wantBelow) {
        due(what + " above", above, wantAbove);
        due(what + " below", below, wantBelow);
    }

    static void letters(TillOneOfSort x, String text) {
        for (int i = 0; i < text.length(); i++) {
            x.letter(text.charAt(i));
        }
    }

    static int tell(TillOneOfSort x, String text) {
        letters(x, text);
        return x.land();
    }

    /** A new object that was told a land; none is told by an empty text. */
    static TillOneOfSort told(String text) {
        TillOneOfSort x = new TillOneOfSort();
        if (!text.isEmpty()) {
            holds("a test's own land " + text + " is one", tell(x, text) > 0);
        }
        return x;
    }

    static void rowOf(TillOneOfSort x, String sorts) {
        for (int i = 0; i < sorts.length(); i++) {
            x.row(sorts.charAt(i) - '0');
        }
    }

    /** A new object that was told a land and a row. */
    static TillOneOfSort behind(String land, String sorts) {
        TillOneOfSort x = told(land);
        rowOf(x, sorts);
        return x;
    }

    /** How many refusals there were of each number, -1 first; of those that are not told, none. */
    static void refusals(String what, TillOneOfSort x, int... want) {
        for (int i = 0; i < 6; i++) {
            due(what + ": count(" + (11 + i) + ")", x.count(11 + i), i < want.length ? want[i] : 0);
        }
    }

    /** What is told of a land and is under way: MOST, CHANCE, 5 and LEAN, KIND, FIGURE, FAMILIES, ROW, letters. */
    static void state(String what, TillOneOfSort x, int... want) {
        for (int i = 0; i < want.length; i++) {
            due(what + ": count(" + i + ")", x.count(i), want[i]);
        }
    }

    /** Runs every private test of a class, by name, so that none can be left out; then tells how it went. */
    static void runAll(Class<?> tests) throws ReflectiveOperationException {
        Map<String, Method> byName = new TreeMap<>();
        for (Method method : tests.getDeclaredMethods()) {
            boolean isTest = Modifier.isPrivate(method.getModifiers()) && Modifier.isStatic(method.getModifiers())
                && method.getParameterCount() == 0 && method.getReturnType() == void.class && !method.isSynthetic();
            if (isTest) {
                byName.put(method.getName(), method);
            }
        }
        for (Method method : byName.values()) {
            runOne(method);
        }
        end(tests.getName() + ", " + byName.size() + " tests");
    }

    private static void runOne(Method method) throws IllegalAccessException {
        int before = wrong;
        method.setAccessible(true);
        try {
            method.invoke(null);
        } catch (InvocationTargetException thrown) {
            wrong++;
            System.out.println(method.getName() + " threw " + thrown.getCause());
        }
        if (wrong > before) {
            System.out.println("FAILED: " + method.getName());
        }
    }

    static void end(String what) {
        System.out.println(what + ": " + asked + " answers asked, " + wrong + " not as due");
        if (wrong != 0) {
            System.exit(1);
        }
    }
}
