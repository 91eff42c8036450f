import java.io.IOException;
import java.lang.reflect.Method;
import java.nio.file.Files;
import java.nio.file.Path;
import java.util.regex.Matcher;
import java.util.regex.Pattern;

/** The calls that README.md shows, made in their order: each answers what stands behind it. */
public final class ReadmeTests {
    private static final Pattern WRITTEN = Pattern.compile("for \\(char letter : \"(.*)\"\\.toCharArray.*");
    private static final Pattern CALLED = Pattern.compile("duel\\.([a-z]+)\\(([0-9, ]*)\\); +// (-?[0-9]+): .*");
    private static final int CALLS_AT_LEAST = 20;

    private final HedgeDuel duel = new HedgeDuel();
    private int calls = 0;

    public static void main(String[] args) throws IOException, ReflectiveOperationException {
        ReadmeTests tests = new ReadmeTests();
        for (String line : Files.readAllLines(Path.of("README.md"))) {
            tests.read(line);
        }
        Check.is("calls found", tests.calls >= CALLS_AT_LEAST ? 1 : 0, 1);
        Check.end("ReadmeTests");
    }

    private void read(String line) throws ReflectiveOperationException {
        Matcher written = WRITTEN.matcher(line);
        if (written.matches()) {
            Check.is(line, Check.put(duel, written.group(1)), written.group(1).length());
        } else if (line.startsWith("duel.")) {
            Matcher called = CALLED.matcher(line);
            Check.is("a call and its answer: " + line, called.matches() ? 1 : 0, 1);
            if (called.matches()) {
                Check.is(line, answer(called.group(1), called.group(2)), Integer.parseInt(called.group(3)));
                calls++;
            }
        }
    }

    private int answer(String name, String list) throws ReflectiveOperationException {
        String[] parts = list.isEmpty() ? new String[0] : list.split(", ");
        Object[] numbers = new Object[parts.length];
        Class<?>[] types = new Class<?>[parts.length];
        for (int i = 0; i < parts.length; i++) {
            numbers[i] = Integer.parseInt(parts[i]);
            types[i] = int.class;
        }
        Method method = HedgeDuel.class.getMethod(name, types);
        return (int) method.invoke(duel, numbers);
    }
}
