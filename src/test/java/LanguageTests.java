import java.io.IOException;
import java.lang.reflect.Constructor;
import java.lang.reflect.Field;
import java.lang.reflect.Method;
import java.lang.reflect.Modifier;
import java.nio.file.Files;
import java.nio.file.Path;
import java.util.ArrayList;
import java.util.Arrays;
import java.util.List;
import java.util.TreeSet;
import java.util.regex.Matcher;
import java.util.regex.Pattern;

/** What of ../shared/LANGUAGE.md a program can see by itself; the numbers are the rules'. Run from the project's folder. */
public final class LanguageTests {
    private static final Path SOURCE = Path.of("src/main/java/CoinMeter.java");
    private static final Path DOCUMENT = Path.of("../shared/DOC.md");
    private static final String[] FORBIDDEN = {"throw", "throws", "try", "catch", "synchronized", "assert", "import", "package",
        "volatile", "protected", "transient", "native", "Object", "hashCode", "toString", "double", "float"};
    private static int wrong = 0;

    private static void due(int rule, boolean holds, String what) {
        if (!holds) {
            wrong++;
            System.out.println("rule " + rule + ": " + what);
        }
    }

    public static void main(String[] args) throws IOException {
        List<Class<?>> classes = new ArrayList<>(List.of(CoinMeter.class));
        classes.addAll(Arrays.asList(CoinMeter.class.getDeclaredClasses()));
        face();
        for (Class<?> c : classes) {
            members(c);
        }
        due(11, classes.size() <= 12, "more than 12 classes");
        words(withoutComments(Files.readString(SOURCE)));
        lengths(Files.readAllLines(SOURCE));
        System.out.println(wrong == 0 ? "the language's rules are kept" : wrong + " rules are broken");
        if (wrong != 0) {
            System.exit(1);
        }
    }

    private static void face() throws IOException {
        TreeSet<String> want = new TreeSet<>();
        Matcher m = Pattern.compile("public int (\\w+)\\(([^)]*)\\);").matcher(Files.readString(DOCUMENT));
        while (m.find()) {
            String types = m.group(2).replaceAll("\\b(int|long) \\w+", "$1").replace(" ", "");
            want.add("int " + m.group(1) + "(" + types + ")");
        }
        TreeSet<String> have = new TreeSet<>();
        TreeSet<String> names = new TreeSet<>();
        for (Method each : CoinMeter.class.getDeclaredMethods()) {
            if (Modifier.isPublic(each.getModifiers())) {
                String types = String.join(",", Arrays.stream(each.getParameterTypes()).map(Class::getName).toList());
                have.add(each.getReturnType() + " " + each.getName() + "(" + types + ")");
                names.add(each.getName());
            }
        }
        due(1, want.equals(have) && want.size() == 33, "the face is " + have + ", due is " + want);
        due(1, Modifier.isFinal(CoinMeter.class.getModifiers()), "the class isn't final");
        for (Class<?> c : CoinMeter.class.getDeclaredClasses()) {
            for (Method each : c.getDeclaredMethods()) {
                due(1, !names.contains(each.getName()), c.getSimpleName() + "." + each.getName() + " bears a name of the face");
            }
        }
        for (Method each : CoinMeter.class.getDeclaredMethods()) {
            int mod = each.getModifiers();
            due(1, Modifier.isPublic(mod) || Modifier.isPrivate(mod) && !names.contains(each.getName()), each + " is seen");
        }
        for (Constructor<?> each : CoinMeter.class.getDeclaredConstructors()) {
            due(1, Modifier.isPublic(each.getModifiers()) && each.getParameterCount() == 0, each + " is not of the face");
        }
    }

    private static void members(Class<?> c) {
        boolean inside = c != CoinMeter.class;
        due(2, !inside || Modifier.isStatic(c.getModifiers()), c + " isn't static");
        due(1, !inside || !Modifier.isPublic(c.getModifiers()), c + " is public");
        due(2, c.getDeclaredClasses().length == 0 || !inside, c + " has classes inside");
        int fields = 0;
        for (Field f : c.getDeclaredFields()) {
            boolean isStatic = Modifier.isStatic(f.getModifiers());
            fields += isStatic ? 0 : 1;
            due(5, !isStatic || Modifier.isFinal(f.getModifiers()), f + " isn't final");
            due(1, inside || Modifier.isPrivate(f.getModifiers()), f + " is seen");
        }
        due(11, fields <= 20, c + " has " + fields + " fields");
        for (Method m : c.getDeclaredMethods()) {
            due(11, m.getParameterCount() <= 7, m + " takes more than seven");
        }
    }

    private static String withoutComments(String source) {
        return source.replaceAll("(?s)/\\*.*?\\*/", "").replaceAll("//[^\n]*", "");
    }

    private static void words(String code) {
        for (String word : FORBIDDEN) {
            due(6, !Pattern.compile("\\b" + word + "\\b").matcher(code).find(), word + " stands in the code");
        }
        due(2, !code.contains("->") && !code.contains("::"), "a lambda or method reference");
        due(4, !code.contains("\""), "a text");
        // All rows are made with the object itself, so that no call makes any.
        for (String line : code.split("\n")) {
            boolean made = line.matches(".*\\bnew\\b.*");
            boolean inConstruction = line.matches("\\s*(private )?final .* = new .*") || line.matches("\\s*(meters|sheets)\\[i] = new .*");
            due(12, !made || inConstruction, "made in a call: " + line.trim());
            due(9, !line.matches("\\s*(while|do)\\b.*"), "a loop without a counter: " + line.trim());
        }
        due(13, !Pattern.compile("System\\.(?!arraycopy)").matcher(code).find(), "System is used otherwise");
        Matcher lib = Pattern.compile("\\b(Math|Integer)\\.(\\w+)").matcher(code);
        while (lib.find()) {
            due(4, List.of("max", "min", "abs", "bitCount").contains(lib.group(2)), lib.group());
        }
    }

    private static void lengths(List<String> lines) {
        int begun = -1;
        String indent = "";
        for (int i = 0; i < lines.size(); i++) {
            String line = lines.get(i);
            Matcher head = Pattern.compile("(    |        )(?!private static final class)\\w.*\\) \\{").matcher(line);
            if (begun < 0 && head.matches()) {
                begun = i;
                indent = head.group(1);
            } else if (begun >= 0 && line.equals(indent + "}")) {
                due(11, i - begun <= 60, "more than 60 lines: " + lines.get(begun).trim());
                begun = -1;
            }
            due(11, line.length() <= 130, "a long line: " + line.trim());
            due(4, line.chars().allMatch(c -> c >= 32 && c < 127), "a sign that isn't plain: " + line.trim());
        }
    }
}
