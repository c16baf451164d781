import java.io.IOException;
import java.lang.reflect.InvocationTargetException;
import java.lang.reflect.Method;
import java.lang.reflect.Modifier;
import java.nio.file.Files;
import java.nio.file.Path;
import java.util.ArrayList;
import java.util.Arrays;
import java.util.List;
import java.util.Set;
import java.util.TreeSet;
import java.util.regex.Matcher;
import java.util.regex.Pattern;
import java.util.stream.Stream;

/** Makes the calls that README.md shows, and compares each answer with the one that it tells. */
public final class ReadmeTest {
    private static final Path README = Path.of("README.md");
    private static final Path TESTS = Path.of("src/test/java");
    private static final String NEW_ONE = "AmendsLedger ledger = new AmendsLedger();";
    /** A call, and behind it the answer, with or without words about it. */
    private static final Pattern CALL = Pattern.compile(
            "ledger\\.(\\w+)\\(([^()]*)\\);\\s+// (throws \\w+|[-0-9.]+)(: \\S.*)?");

    private static final Checks CHECKS = new Checks("ReadmeTest");

    public static void main(String[] args) throws IOException {
        List<String> lines = Files.readAllLines(README);
        Set<String> shown = new TreeSet<>();
        AmendsLedger ledger = null;
        for (String line : codeOf(lines)) {
            if (line.equals(NEW_ONE)) {
                ledger = new AmendsLedger();
            } else {
                shown.add(callTold(line, ledger));
            }
        }
        CHECKS.due("methods that README.md shows", shown.toString(), face().toString());
        everyTestIsNamed(String.join("\n", lines));
        CHECKS.end();
    }

    private static List<String> codeOf(List<String> lines) {
        List<String> code = new ArrayList<>();
        boolean inside = false;
        for (String line : lines) {
            if (line.startsWith("```")) {
                inside = line.equals("```java");
            } else if (inside) {
                code.add(line);
            }
        }
        return code;
    }

    /** Returns the name of the method that this line calls. */
    private static String callTold(String line, AmendsLedger ledger) {
        Matcher matcher = CALL.matcher(line);
        CHECKS.due("a call and its answer: " + line, matcher.matches() ? 1 : 0, 1);
        if (!matcher.matches()) {
            return line;
        }
        String name = matcher.group(1);
        CHECKS.due("README.md: " + line, answer(ledger, name, argumentsIn(matcher.group(2))),
                matcher.group(3));
        return name;
    }

    private static String answer(AmendsLedger ledger, String name, Object[] told) {
        Class<?>[] types = new Class<?>[told.length];
        Arrays.fill(types, int.class);
        try {
            return AmendsLedger.class.getMethod(name, types).invoke(ledger, told).toString();
        } catch (InvocationTargetException e) {
            return "throws " + e.getCause().getClass().getSimpleName();
        } catch (ReflectiveOperationException e) {
            return "no such call";
        }
    }

    private static Object[] argumentsIn(String list) {
        return Stream.of(list.split(",")).map(String::trim).filter(each -> !each.isEmpty())
                .map(ReadmeTest::numberOf).toArray();
    }

    private static Integer numberOf(String told) {
        if (told.equals("AmendsLedger.NONE")) {
            return AmendsLedger.NONE;
        }
        return told.matches("'.'") ? (Integer) (int) told.charAt(1) : Integer.valueOf(told);
    }

    private static Set<String> face() {
        Set<String> names = new TreeSet<>();
        for (Method method : AmendsLedger.class.getDeclaredMethods()) {
            if (Modifier.isPublic(method.getModifiers())) {
                names.add(method.getName());
            }
        }
        return names;
    }

    private static void everyTestIsNamed(String readme) throws IOException {
        try (Stream<Path> files = Files.list(TESTS)) {
            for (Path file : files.sorted().toList()) {
                String name = file.getFileName().toString().replace(".java", "");
                if (name.endsWith("Test")) {
                    CHECKS.due("the table names " + name,
                            readme.contains("| `" + name + "` |") ? 1 : 0, 1);
                }
            }
        }
    }
}
