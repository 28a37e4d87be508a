import java.io.IOException;
import java.lang.reflect.InvocationTargetException;
import java.lang.reflect.Method;
import java.nio.file.Files;
import java.nio.file.Path;
import java.util.HashSet;
import java.util.Set;
import java.util.regex.Matcher;
import java.util.regex.Pattern;

/** README.md says how to use the class: each line of its example answers what stands behind it. */
public final class ReadmeTest {
    private static final Pattern LINE =
        Pattern.compile("c\\.(\\w+)\\(([-0-9, ]*)\\);(?:\\s+// (?:throws (\\w+)|(-?\\d+)).*)?");

    private static final CircleCells SUBJECT = new CircleCells();
    private static final Set<String> CALLED = new HashSet<>();

    public static void main(String[] args) throws IOException {
        String readme = Files.readString(Path.of("README.md"));
        String[] lines = readme.split("```java\n")[1].split("```")[0].split("\n");
        Check.due("the example's first line", lines[0], "CircleCells c = new CircleCells();");
        for (int i = 1; i < lines.length; i++) {
            Matcher line = LINE.matcher(lines[i]);
            if (line.matches()) {
                run(lines[i], line);
            } else {
                Check.report("a line that is no call with its answer: " + lines[i]);
            }
        }
        for (Method m : CircleCells.class.getMethods()) {
            if (m.getDeclaringClass() == CircleCells.class) {
                Check.holds("the example calls " + m.getName(), CALLED.contains(m.getName()));
                Check.holds("the table tells of " + m.getName(), readme.contains("| `" + m.getName() + "("));
            }
        }
        Check.end("ReadmeTest");
    }

    private static void run(String text, Matcher line) {
        String want = line.group(3) != null ? line.group(3) : line.group(4) != null ? line.group(4) : "null";
        CALLED.add(line.group(1));
        Check.due(text, answer(line.group(1), line.group(2)), want);
    }

    /** What the call answers, the name of what it throws, or null where it answers nothing. */
    private static String answer(String name, String list) {
        String[] texts = list.isEmpty() ? new String[0] : list.split(", ");
        Object[] values = new Object[texts.length];
        Class<?>[] types = new Class<?>[texts.length];
        for (int i = 0; i < texts.length; i++) {
            values[i] = Integer.valueOf(texts[i]);
            types[i] = int.class;
        }
        try {
            return "" + CircleCells.class.getMethod(name, types).invoke(SUBJECT, values);
        } catch (InvocationTargetException e) {
            return e.getCause().getClass().getSimpleName();
        } catch (ReflectiveOperationException e) {
            return "no such call: " + e;
        }
    }
}
