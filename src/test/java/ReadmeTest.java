import java.io.IOException;
import java.lang.reflect.Method;
import java.lang.reflect.Modifier;
import java.nio.file.Files;
import java.nio.file.Path;
import java.util.Set;
import java.util.TreeSet;
import java.util.regex.Matcher;
import java.util.regex.Pattern;

/** The example of README.md, call by call: a reader who types it in gets the answers that stand there. */
public final class ReadmeTest {
    private static final Path PAGE = Path.of("README.md");
    private static final Pattern EXAMPLE = Pattern.compile("(?s)```java\n(.*?)```");
    private static final Pattern TEXT = Pattern.compile("\"([^\"]*)\"\\.toCharArray\\(\\)");
    private static final Pattern CALL = Pattern.compile("x\\.(\\w+)\\(([-\\d, ]*)\\);(?:\\s*// (-?\\d+|[A-Z]+)\\b.*)?");
    private static final Pattern CONSTANT = Pattern.compile("\\| `([A-Z]+)` \\| (-\\d+) \\|.*");

    public static void main(String[] args) throws ReflectiveOperationException, IOException {
        String page = Files.readString(PAGE);
        example(page);
        answers(page);
        Due.end();
    }

    private static void example(String page) throws ReflectiveOperationException {
        Due due = new Due("README.md");
        Matcher example = EXAMPLE.matcher(page);
        due.is("an example", example.find() ? 1 : 0, 1);
        Set<String> shown = new TreeSet<>();
        for (String row : example.group(1).split("\n")) {
            Matcher text = TEXT.matcher(row);
            if (text.find()) {
                due.type(text.group(1));
                shown.add("letter");
            }
            Matcher call = CALL.matcher(row);
            if (call.matches()) {
                due.is("an answer at " + row, call.group(3) == null ? 0 : 1, 1);
                due.is(row.trim(), answer(due.x, call.group(1), call.group(2)), value(call.group(3)));
                shown.add(call.group(1));
            }
        }
        for (Method method : DyeLots.class.getDeclaredMethods()) {
            if (Modifier.isPublic(method.getModifiers())) {
                due.is("shown: " + method.getName(), shown.contains(method.getName()) ? 1 : 0, 1);
            }
        }
    }

    /** The table of answers has each constant of the class with its value. */
    private static void answers(String page) throws ReflectiveOperationException {
        Due due = new Due("README.md");
        int rows = 0;
        for (String row : page.split("\n")) {
            Matcher constant = CONSTANT.matcher(row);
            if (constant.matches()) {
                rows++;
                due.is(row, value(constant.group(1)), Long.parseLong(constant.group(2)));
            }
        }
        due.is("answers in the table", rows, 5);
    }

    private static long answer(DyeLots x, String name, String list) throws ReflectiveOperationException {
        String[] texts = list.isEmpty() ? new String[0] : list.split(", ");
        Class<?>[] types = new Class<?>[texts.length];
        Object[] numbers = new Object[texts.length];
        for (int at = 0; at < texts.length; at++) {
            types[at] = int.class;
            numbers[at] = Integer.valueOf(texts[at]);
        }
        Number told = (Number) DyeLots.class.getMethod(name, types).invoke(x, numbers);
        return told.longValue();
    }

    private static long value(String answer) throws ReflectiveOperationException {
        if (answer == null) {
            return Long.MIN_VALUE;
        }
        return Character.isLetter(answer.charAt(0)) ? DyeLots.class.getField(answer).getInt(null) : Long.parseLong(answer);
    }
}
