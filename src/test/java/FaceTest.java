import java.io.IOException;
import java.lang.management.ManagementFactory;
import java.lang.reflect.Constructor;
import java.lang.reflect.Field;
import java.lang.reflect.Method;
import java.lang.reflect.Modifier;
import java.nio.file.Files;
import java.nio.file.Path;
import java.util.Arrays;
import java.util.Set;
import java.util.TreeSet;
import java.util.regex.Matcher;
import java.util.regex.Pattern;

/** The public face, the room that calls take, and what of LANGUAGE.md can be read off the source. */
public final class FaceTest {
    private static final String[] FACE = {
        "int letter(int)", "int land()", "int law(int, int)", "int set(int, int)", "int stops(int, int, int)",
        "long mean(int, int)", "long share(int)", "long all(int)", "long more(int, int)", "long size(int, int)",
        "long met(int, int)", "long says(int, int, int, int, int)", "long trial(int, int, int)", "int row(int)",
        "long gone(int)", "int shift(int)", "int fits(int)", "int judge()", "int seen(int, int)", "int cheats()",
        "int lots(int, int, int)", "int image()", "int on()", "int count(int)"
    };
    private static int wrong = 0;

    private static void must(boolean holds, String what) {
        if (!holds) {
            wrong++;
            System.out.println("not so: " + what);
        }
    }

    private static void face() {
        int ofClass = TillOneOfSort.class.getModifiers();
        must(Modifier.isPublic(ofClass) && Modifier.isFinal(ofClass), "the class is public and final");
        Set<String> face = new TreeSet<>(Arrays.asList(FACE));
        Set<String> names = new TreeSet<>();
        for (String method : FACE) {
            names.add(method.substring(method.indexOf(' ') + 1, method.indexOf('(')));
        }
        for (Method method : TillOneOfSort.class.getDeclaredMethods()) {
            String parameters = Arrays.toString(method.getParameterTypes()).replace('[', '(').replace(']', ')');
            String told = method.getReturnType() + " " + method.getName() + parameters;
            if (Modifier.isPrivate(method.getModifiers())) {
                must(!names.contains(method.getName()), "private " + told + " bears a name of its own");
            } else {
                must(face.remove(told) && !Modifier.isStatic(method.getModifiers()), told + " is of the face");
            }
        }
        must(face.isEmpty(), "nothing of the face lacks: " + face);
        for (Field field : TillOneOfSort.class.getDeclaredFields()) {
            must(Modifier.isPrivate(field.getModifiers()), field + " is private");
        }
        Constructor<?>[] constructors = TillOneOfSort.class.getDeclaredConstructors();
        must(constructors.length == 1 && Modifier.isPublic(constructors[0].getModifiers())
            && constructors[0].getParameterCount() == 0, "one public constructor without parameters");
    }

    /** Every call of the face, with a law that changes so that nothing is known from before. */
    private static long callAll(TillOneOfSort x, int i) {
        long sum = x.law(i % 6, 1 + i % 9) + x.set(0, 1 + i % 10) + x.set(1, 1 + i % 11) + x.set(2, i % 11);
        sum += x.mean(i % 3, 0) + x.share(0) + x.all(1) + x.more(i % 3, 0) + x.size(1 + i % 10, 0) + x.met(i % 2, 0);
        sum += x.says(i % 2, i % 4, i % 3, i % 2, 0) + x.trial(1 + i % 10, 1 + i % 9, 0) + x.shift(i % 2);
        sum += x.row(i % 2) + x.gone(0) + x.fits(0) + x.fits(1) + x.judge() + x.seen(0, 1) + x.cheats();
        sum += x.lots(40, i, 1) + x.image() + x.on() + x.count(5) + x.stops(1, 1, 1) + x.mean(9, 9);
        sum += x.letter('f') + x.letter('0') + x.letter('1') + x.letter(';') + x.land();
        return sum;
    }

    /** What an object needs it makes in its constructor: the calls make nothing. */
    private static void room() {
        com.sun.management.ThreadMXBean room =
            (com.sun.management.ThreadMXBean) ManagementFactory.getThreadMXBean();
        long thread = Thread.currentThread().getId();
        TillOneOfSort x = new TillOneOfSort();
        long sum = callAll(x, 1);
        long before = room.getThreadAllocatedBytes(thread);
        for (int i = 0; i < 2000; i++) {
            sum += callAll(x, i);
        }
        long made = room.getThreadAllocatedBytes(thread) - before;
        must(made < 20000, "2000 times all calls make less than one object of 16 bytes each: " + made + ", " + sum);
    }

    private static void language() throws IOException {
        String source = Files.readString(Path.of("src/main/java/TillOneOfSort.java"));
        String code = source.replaceAll("(?s)/\\*.*?\\*/", "").replaceAll("//[^\n]*", "").replaceAll("'.'", "0");
        String[] words = {"throw", "throws", "try", "catch", "synchronized", "assert", "package", "enum", "float",
            "double", "System", "Random", "protected", "Object", "hashCode", "toString", "Long", "[a-z]+Exact"};
        for (String word : words) {
            must(!Pattern.compile("\\b" + word + "\\b").matcher(code).find(), "no " + word + " in the source");
        }
        must(!code.contains("->") && !code.contains("::"), "no lambda, no method reference");
        must(!code.contains("\""), "no text in the source");
        must(!Pattern.compile("static\\s*\\{").matcher(code).find(), "no static block");
        must(!Pattern.compile("static (?!final)[\\w\\[\\]]+ \\w+( =|;)").matcher(code).find(), "static fields are final");
        Matcher imports = Pattern.compile("import ([^;]+);").matcher(code);
        while (imports.find()) {
            must(imports.group(1).equals("java.util.Arrays"), "no import of " + imports.group(1));
        }
        must(Pattern.compile("\\bclass \\w").matcher(code).results().count() <= 12, "twelve classes at most");
        must(source.chars().allMatch(c -> c < 127), "plain signs");
    }

    public static void main(String[] args) throws IOException {
        face();
        room();
        language();
        System.out.println(wrong == 0 ? "face, room and language are as due" : wrong + " are not as due");
        if (wrong != 0) {
            System.exit(1);
        }
    }
}
