import java.io.IOException;
import java.lang.reflect.InvocationTargetException;
import java.lang.reflect.Method;
import java.lang.reflect.Modifier;
import java.nio.file.Files;
import java.nio.file.Path;
import java.util.HashMap;
import java.util.Map;
import java.util.regex.Matcher;
import java.util.regex.Pattern;

/** What README.md shows of calls is what the class answers: its java lines are run, one behind the other. */
public final class ReadmeTest extends Checks {
    private static final Pattern MADE = Pattern.compile("TillOneOfSort land = new TillOneOfSort\\(\\);");
    private static final Pattern TEXT = Pattern.compile("for \\(char c : \"([^\"]*)\"\\.toCharArray\\(\\)\\) \\{");
    private static final Pattern CALL = Pattern.compile("land\\.(\\w+)\\(([-\\d, ]*)\\); +// (-?\\d+)(:.*)?");
    private static final Map<String, Method> METHODS = new HashMap<>();
    private static TillOneOfSort land = null;

    /** A line that shows anything else would stand there unproved, so it is wrong. */
    private static void run(String line) throws ReflectiveOperationException {
        Matcher text = TEXT.matcher(line);
        Matcher call = CALL.matcher(line);
        if (MADE.matcher(line).matches()) {
            land = new TillOneOfSort();
        } else if (text.matches()) {
            letters(land, text.group(1));
        } else if (call.matches() && METHODS.containsKey(call.group(1))) {
            due("README.md: " + line, answer(call.group(1), call.group(2)), Long.parseLong(call.group(3)));
        } else {
            holds("README.md: a call and its answer in " + line, line.equals("land.letter(c);") || line.equals("}"));
        }
    }

    private static long answer(String name, String numbers) throws ReflectiveOperationException {
        String[] told = numbers.isEmpty() ? new String[0] : numbers.split(", *");
        Object[] arguments = new Object[told.length];
        for (int i = 0; i < told.length; i++) {
            arguments[i] = Integer.valueOf(told[i]);
        }
        try {
            return ((Number) METHODS.get(name).invoke(land, arguments)).longValue();
        } catch (InvocationTargetException thrown) {
            throw new IllegalStateException(name + " throws", thrown);
        }
    }

    private static void examples(String page) throws ReflectiveOperationException {
        boolean inside = false;
        int examples = 0;
        for (String line : page.split("\n")) {
            if (line.startsWith("```")) {
                inside = line.equals("```java");
                examples += inside ? 1 : 0;
            } else if (inside) {
                run(line.trim());
            }
        }
        holds("README.md shows examples", examples > 0);
    }

    private static void tables(String page) {
        for (String name : METHODS.keySet()) {
            Pattern row = Pattern.compile("\\| .*`" + name + "\\(.* \\|");
            holds("README.md tells what " + name + " answers", row.matcher(page).find());
        }
        for (int number : new int[] {2, 3, 4, 6}) {
            holds("README.md tells -" + number, page.contains("| -" + number + " | " + (FOUR + number) + " |"));
        }
        holds("README.md tells how the tests are run", page.contains("`bash .ci/run`"));
    }

    public static void main(String[] args) throws IOException, ReflectiveOperationException {
        for (Method method : TillOneOfSort.class.getDeclaredMethods()) {
            if (Modifier.isPublic(method.getModifiers())) {
                METHODS.put(method.getName(), method);
            }
        }
        String page = Files.readString(Path.of("README.md"));
        examples(page);
        tables(page);
        end("ReadmeTest");
    }
}
