import java.io.IOException;
import java.lang.reflect.Method;
import java.nio.charset.StandardCharsets;
import java.nio.file.Files;
import java.nio.file.Path;
import java.util.Set;
import java.util.TreeSet;
import java.util.regex.Matcher;
import java.util.regex.Pattern;

/** README.md: the calls of its example answer what stands behind them, and it names every call. */
final class ReadmeTest {
    private static final Pattern CALL = Pattern.compile("^x\\.(\\w+)\\(([^)]*)\\);\\s*// (-?\\d+)\\b.*$");

    public static void main(String[] args) throws IOException, ReflectiveOperationException {
        String all = Files.readString(Path.of(args[0], "README.md"), StandardCharsets.UTF_8);
        int from = all.indexOf("```java\n");
        int to = all.indexOf("```", from + 3);
        Kit.due("there is an example", from >= 0 && to > from, true);
        example(from < 0 || to < from ? "" : all.substring(from + 8, to));
        namesEveryCall(all);
        Kit.finish("ReadmeTest");
    }

    private static void example(String lines) throws ReflectiveOperationException {
        ChoirShip x = new ChoirShip();
        int calls = 0;
        for (String line : lines.split("\n")) {
            Matcher m = CALL.matcher(line);
            if (m.matches()) {
                calls++;
                Kit.due(line, answer(x, m.group(1), m.group(2)), Integer.parseInt(m.group(3)));
            } else {
                boolean known = line.startsWith("//") || line.equals("ChoirShip x = new ChoirShip();");
                Kit.due("a line without a call and its answer: " + line, known, true);
            }
        }
        Kit.due("calls of the example", calls > 20, true);
    }

    private static int answer(ChoirShip x, String name, String list) throws ReflectiveOperationException {
        String[] texts = list.isEmpty() ? new String[0] : list.split(", ");
        Class<?>[] types = new Class<?>[texts.length];
        Object[] numbers = new Object[texts.length];
        for (int i = 0; i < texts.length; i++) {
            types[i] = int.class;
            numbers[i] = Integer.decode(texts[i]);
        }
        return (Integer) ChoirShip.class.getMethod(name, types).invoke(x, numbers);
    }

    private static void namesEveryCall(String all) {
        Set<String> missing = new TreeSet<>();
        for (Method m : ChoirShip.class.getMethods()) {
            if (m.getDeclaringClass() == ChoirShip.class && !all.contains("`" + m.getName() + "`")) {
                missing.add(m.getName());
            }
        }
        Kit.due("calls that README.md does not name: " + missing, missing.isEmpty(), true);
    }
}
