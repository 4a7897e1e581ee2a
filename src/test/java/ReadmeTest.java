import java.io.IOException;
import java.lang.reflect.Method;
import java.lang.reflect.Modifier;
import java.nio.file.Files;
import java.nio.file.Path;
import java.util.Arrays;
import java.util.HashMap;
import java.util.List;
import java.util.Map;
import java.util.regex.Matcher;
import java.util.regex.Pattern;

/** What README.md tells of the class: each call of its example is made, and each call of the face must be named. */
public final class ReadmeTest {
    private static final Pattern CALL = Pattern.compile("(?:int (\\w+) = )?list\\.(\\w+)\\((.*)\\); +// (-?\\d+)\\b.*");

    private final LifeList list = new LifeList();
    private final Map<String, Integer> named = new HashMap<>();

    public static void main(String[] args) throws IOException, ReflectiveOperationException {
        List<String> lines = Files.readAllLines(Path.of("README.md"));
        int from = lines.indexOf("```java") + 1;
        int length = lines.subList(from, lines.size()).indexOf("```");
        Checks.yes("an example stands there", from > 0 && length > 0);
        Checks.yes("it starts with a new object", lines.get(from).equals("LifeList list = new LifeList();"));
        ReadmeTest test = new ReadmeTest();
        for (String line : lines.subList(from + 1, from + length)) {
            if (!line.isEmpty() && !line.startsWith("//")) {
                test.call(line);
            }
        }
        names(String.join("\n", lines));
        Checks.end();
    }

    private void call(String line) throws ReflectiveOperationException {
        Matcher parts = CALL.matcher(line);
        if (!parts.matches()) {
            Checks.yes("a call with its answer: " + line, false);
            return;
        }
        String[] numbers = parts.group(3).isEmpty() ? new String[0] : parts.group(3).split(", ");
        Method method = Arrays.stream(LifeList.class.getMethods())
                .filter(one -> one.getName().equals(parts.group(2)) && one.getParameterCount() == numbers.length)
                .findFirst().orElseThrow();
        Object[] given = new Object[numbers.length];
        for (int i = 0; i < numbers.length; i++) {
            given[i] = number(numbers[i], method.getParameterTypes()[i]);
        }
        int answer = (int) method.invoke(list, given);
        Checks.due(line, answer, Integer.parseInt(parts.group(4)));
        if (parts.group(1) != null) {
            named.put(parts.group(1), answer);
        }
    }

    private Object number(String text, Class<?> type) {
        if (type == boolean.class) {
            return Boolean.valueOf(text);
        }
        if (type == long.class) {
            return Long.decode(text.replace("L", ""));
        }
        if (named.containsKey(text)) {
            return named.get(text);
        }
        return text.startsWith("0b") ? Integer.parseInt(text.substring(2), 2) : Integer.parseInt(text);
    }

    private static void names(String text) {
        for (Method method : LifeList.class.getDeclaredMethods()) {
            if (Modifier.isPublic(method.getModifiers())) {
                Checks.yes(method.getName() + " is named", text.contains("`" + method.getName() + "`"));
            }
        }
        Matcher refusals = Pattern.compile("\\| (-\\d+) \\| `(\\w+)` \\|").matcher(text);
        int found = 0;
        while (refusals.find()) {
            found++;
            Checks.due(refusals.group(2), constant(refusals.group(2)), Integer.parseInt(refusals.group(1)));
        }
        Checks.due("refusals", found, 8);
    }

    private static int constant(String name) {
        try {
            return LifeList.class.getField(name).getInt(null);
        } catch (ReflectiveOperationException none) {
            return 0;
        }
    }
}
