import java.io.IOException;
import java.lang.reflect.Method;
import java.nio.file.Files;
import java.nio.file.Path;
import java.util.ArrayList;
import java.util.List;
import java.util.regex.Matcher;
import java.util.regex.Pattern;

/** Each call that README.md shows answers what stands behind it there. Run from the project's folder. */
public final class ReadmeTests {
    private static final Path README = Path.of("README.md");
    private static final Pattern CALL = Pattern.compile("town\\.(\\w+)\\((.*)\\); +// (-?\\d+): .+");

    public static void main(String[] args) throws IOException, ReflectiveOperationException {
        CoinMeter town = null;
        int wrong = 0;
        int calls = 0;
        for (String line : examples(Files.readAllLines(README))) {
            Matcher m = CALL.matcher(line);
            if (line.equals("CoinMeter town = new CoinMeter();")) {
                town = new CoinMeter();
            } else if (town == null || !m.matches()) {
                wrong++;
                System.out.println("no call with its answer: " + line);
            } else {
                calls++;
                int got = answer(town, m.group(1), m.group(2));
                if (got != Integer.parseInt(m.group(3))) {
                    wrong++;
                    System.out.println(line + " -- answered " + got);
                }
            }
        }
        if (calls == 0) {
            wrong++;
            System.out.println("no example was found");
        }
        System.out.println(wrong == 0 ? calls + " calls answer as the page says" : wrong + " lines of the page don't hold");
        if (wrong != 0) {
            System.exit(1);
        }
    }

    private static List<String> examples(List<String> page) {
        List<String> lines = new ArrayList<>();
        boolean inside = false;
        for (String line : page) {
            if (line.startsWith("```")) {
                inside = line.equals("```java");
            } else if (inside && !line.isBlank()) {
                lines.add(line.trim());
            }
        }
        return lines;
    }

    private static int answer(CoinMeter town, String name, String text) throws ReflectiveOperationException {
        String[] parts = text.isBlank() ? new String[0] : text.split(", ");
        for (Method m : CoinMeter.class.getMethods()) {
            Class<?>[] types = m.getParameterTypes();
            if (m.getName().equals(name) && types.length == parts.length) {
                Object[] values = new Object[parts.length];
                for (int i = 0; i < parts.length; i++) {
                    long v = Long.decode(parts[i]);
                    values[i] = types[i] == long.class ? (Object) v : (Object) (int) v;
                }
                return (int) m.invoke(town, values);
            }
        }
        throw new NoSuchMethodException(name);
    }
}
