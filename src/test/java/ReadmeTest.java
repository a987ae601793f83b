import java.io.IOException;
import java.lang.reflect.Method;
import java.nio.file.Files;
import java.nio.file.Path;
import java.util.Map;
import java.util.TreeMap;
import java.util.regex.Matcher;
import java.util.regex.Pattern;

/** The example of README.md answers what its comments say, and README.md names every call. */
public final class ReadmeTest {
    private static final Pattern ROW =
            Pattern.compile("(?:int (\\w+) = )?net\\.(\\w+)\\(([^)]*)\\); +// (-?\\w+): .*");

    private final CircuitNet net = new CircuitNet();
    private final Map<String, Integer> numbers = new TreeMap<>();

    public static void main(String[] args) throws IOException {
        String text = Files.readString(Path.of("README.md"));
        for (Method method : CircuitNet.class.getDeclaredMethods()) {
            if (java.lang.reflect.Modifier.isPublic(method.getModifiers())) {
                Check.due("README.md tells " + method.getName(),
                        text.contains("| `" + method.getName() + "("), true);
            }
        }
        new ReadmeTest().play(text.split("```java\n|```\n")[1].split("\n"));
        Check.finish();
    }

    private void play(String[] rows) {
        Check.due("the example's first row", rows[0], "CircuitNet net = new CircuitNet();");
        for (int i = 1; i < rows.length; i++) {
            Matcher row = ROW.matcher(rows[i]);
            Check.due("the form of " + rows[i], row.matches(), true);
            if (row.matches()) {
                String answer = String.valueOf(answerOf(row.group(2), row.group(3)));
                Check.due(rows[i] + " -- its answer", answer, row.group(4));
                if (row.group(1) != null) {
                    numbers.put(row.group(1), Integer.valueOf(answer));
                }
            }
        }
    }

    private Object answerOf(String name, String list) {
        String[] words = list.split(", ");
        Object[] given = new Object[words.length];
        Class<?>[] types = new Class<?>[words.length];
        for (int i = 0; i < words.length; i++) {
            Integer known = numbers.get(words[i]);
            given[i] = known == null ? Integer.valueOf(words[i]) : known;
            types[i] = int.class;
        }
        try {
            return CircuitNet.class.getMethod(name, types).invoke(net, given);
        } catch (ReflectiveOperationException missing) {
            throw new IllegalStateException(missing);
        }
    }
}
