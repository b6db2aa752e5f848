import java.io.IOException;
import java.lang.reflect.Method;
import java.nio.file.Files;
import java.nio.file.Path;
import java.util.Map;
import java.util.TreeMap;
import java.util.TreeSet;
import java.util.regex.Matcher;
import java.util.regex.Pattern;

/** What README.md shows is so: each row of its example answers what stands beside it, and no call is left out. */
public final class ReadmeTest {
    private static final Due DUE = new Due("readme");
    private static final Pattern ROW = Pattern.compile("x\\.(\\w+)\\(([^)]*)\\); +// (-?\\d+|[A-Z]+): .+");
    private static final Pattern TEXT = Pattern.compile("for \\(char sign : \"([^\"]+)\"\\.toCharArray\\(\\)\\) x\\.say\\(sign\\);");
    private static final Map<String, Method> CALLS = new TreeMap<>();

    public static void main(String[] args) throws ReflectiveOperationException, IOException {
        for (Method m : MittenLine.class.getDeclaredMethods()) {
            if ((m.getModifiers() & java.lang.reflect.Modifier.PUBLIC) != 0) CALLS.put(m.getName(), m);
        }
        String readme = Files.readString(Path.of("README.md"));
        int from = readme.indexOf("```java\n");
        int to = readme.indexOf("```\n", from + 8);
        DUE.same("there is an example", from >= 0 && to > from ? 1 : 0, 1);
        if (from >= 0 && to > from) example(readme.substring(from + 8, to));
        DUE.end();
    }

    private static void example(String rows) throws ReflectiveOperationException {
        MittenLine x = new MittenLine();
        TreeSet<String> left = new TreeSet<>(CALLS.keySet());
        for (String row : rows.split("\n")) {
            if (row.isEmpty() || row.startsWith("//") || row.equals("MittenLine x = new MittenLine();")) continue;
            Matcher text = TEXT.matcher(row);
            Matcher call = ROW.matcher(row);
            if (text.matches()) {
                Due.say(x, text.group(1));
                left.remove("say");
            } else if (call.matches() && CALLS.containsKey(call.group(1))) {
                left.remove(call.group(1));
                long got = ((Number) CALLS.get(call.group(1)).invoke(x, numbers(call.group(2)))).longValue();
                DUE.same(row, got, due(call.group(3)));
            } else {
                DUE.same("this row is one of the example's: " + row, 0, 1);
            }
        }
        DUE.same("calls that the example leaves out: " + left, left.size(), 0);
    }

    /** What is between a call's brackets: numbers, or sums of two. */
    private static Object[] numbers(String list) {
        if (list.isEmpty()) return new Object[0];
        String[] parts = list.split(", ");
        Object[] numbers = new Object[parts.length];
        for (int i = 0; i < parts.length; i++) {
            int sum = 0;
            for (String part : parts[i].split(" \\+ ")) sum += Integer.parseInt(part);
            numbers[i] = sum;
        }
        return numbers;
    }

    private static long due(String told) throws ReflectiveOperationException {
        if (Character.isLetter(told.charAt(0))) return MittenLine.class.getField(told).getLong(null);
        return Long.parseLong(told);
    }
}
