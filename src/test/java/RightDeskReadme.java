import java.io.IOException;
import java.lang.reflect.InvocationTargetException;
import java.lang.reflect.Method;
import java.lang.reflect.Modifier;
import java.nio.file.Files;
import java.nio.file.Path;
import java.util.ArrayList;
import java.util.HashMap;
import java.util.List;
import java.util.Map;
import java.util.Set;
import java.util.TreeMap;
import java.util.TreeSet;
import java.util.regex.Matcher;
import java.util.regex.Pattern;
import java.util.stream.Stream;

/**
 * The calls that README.md shows, made in their order, with the answers that it names. They are read
 * from README.md itself, so that no answer can be changed there without being tested.
 */
public final class RightDeskReadme {
    private static final Path README = Path.of("README.md");
    private static final Path TESTS = Path.of("src/test/java");
    private static final int MOST_CALLS = 512;

    private static final Pattern NEW_DESK = Pattern.compile("RightDesk (\\w+) = new RightDesk\\(\\);");
    private static final Pattern CALL = Pattern.compile(
            "(?:for \\(int i = 0; i < (\\d+); i\\+\\+\\) |int (\\w+) = )?(\\w+)\\.(\\w+)\\(([^()]*)\\);"
            + " +// (-?\\w+)(?:: .+)?");
    private static final Pattern TABLE_ROW = Pattern.compile("\\| `(\\w+)\\(([^()]*)\\)` \\| .+ \\|");
    private static final Pattern TEST_FILE = Pattern.compile("- `src/test/java/(\\w+\\.java)`: .+");
    private static final Pattern LOOSE_CALL = Pattern.compile("\\w+\\(-?\\d");

    private static final Map<String, Integer> CONSTANTS =
            Map.of("BAD", RightDesk.BAD, "NO", RightDesk.NO, "FULL", RightDesk.FULL);

    private static final Map<String, Method> FACE = new TreeMap<>();
    private static final Map<String, RightDesk> DESKS = new HashMap<>();
    private static final Map<String, Integer> CALLS = new HashMap<>();
    private static final Map<String, Integer> NUMBERS = new HashMap<>();
    private static final Set<String> SHOWN = new TreeSet<>();
    private static final Set<String> NAMED = new TreeSet<>();

    private static int wrong = 0;

    private static void refuse(String what) {
        wrong++;
        System.out.println(what);
    }

    public static void main(String[] args) throws IOException {
        for (Method method : RightDesk.class.getDeclaredMethods()) {
            if (Modifier.isPublic(method.getModifiers())) {
                FACE.put(method.getName(), method);
            }
        }
        List<String> lines = Files.readAllLines(README);
        runBlocks(lines);
        same("the methods whose calls README.md shows", SHOWN, FACE.keySet());
        for (String name : CONSTANTS.keySet()) {
            if (!NAMED.contains(name)) {
                refuse("README.md shows no call that is answered with " + name);
            }
        }
        tableOfCalls(lines);
        listOfTests(lines);
        System.out.println(wrong == 0 ? "README.md is right" : wrong + " faults of README.md");
        if (wrong != 0) {
            System.exit(1);
        }
    }

    private static void same(String what, Set<String> seen, Set<String> want) {
        if (!seen.equals(want)) {
            refuse(what + " are " + seen + ", due are " + want);
        }
    }

    /** A call outside the Java blocks would not be made, so none may be shown there. */
    private static void runBlocks(List<String> lines) {
        boolean inside = false;
        for (String line : lines) {
            if (line.startsWith("```")) {
                inside = line.equals("```java");
            } else if (inside) {
                runLine(line);
            } else if (LOOSE_CALL.matcher(line).find()) {
                refuse("README.md shows a call outside its Java blocks: " + line);
            }
        }
        if (inside) {
            refuse("the last Java block of README.md has no end");
        }
    }

    private static void runLine(String line) {
        Matcher fresh = NEW_DESK.matcher(line);
        Matcher call = CALL.matcher(line);
        if (fresh.matches()) {
            if (DESKS.put(fresh.group(1), new RightDesk()) != null) {
                refuse("README.md makes this desk twice: " + line);
            }
        } else if (call.matches()) {
            runCall(line, call);
        } else {
            refuse("README.md has a line that is no call with its answer: " + line);
        }
    }

    private static void runCall(String line, Matcher call) {
        int times = call.group(1) == null ? 1 : Integer.parseInt(call.group(1));
        for (int i = 0; i < times; i++) {
            if (call.group(1) != null) {
                NUMBERS.put("i", i);
            }
            Integer got = answer(line, call.group(3), call.group(4), call.group(5));
            Integer want = number(call.group(6));
            if (got == null || want == null) {
                refuse("README.md has a line that can't be made: " + line);
                return;
            }
            if (!got.equals(want)) {
                refuse("README.md: " + line + " answered " + got);
            }
            keep(line, call.group(2), got);
        }
        NUMBERS.remove("i");
        SHOWN.add(call.group(4));
        NAMED.add(call.group(6));
    }

    private static void keep(String line, String name, int got) {
        if (name != null && NUMBERS.put(name, got) != null) {
            refuse("README.md names this number twice: " + line);
        }
    }

    /** Null when there is no such desk or method, or when the numbers do not fit it. */
    private static Integer answer(String line, String deskName, String methodName, String given) {
        RightDesk desk = DESKS.get(deskName);
        Method method = FACE.get(methodName);
        Object[] with = arguments(given);
        if (desk == null || method == null || with == null || !fits(method, with)) {
            return null;
        }
        if (CALLS.merge(deskName, 1, Integer::sum) > MOST_CALLS) {
            refuse("README.md uses a desk for more than " + MOST_CALLS + " calls: " + line);
        }
        try {
            return (Integer) method.invoke(desk, with);
        } catch (IllegalAccessException | InvocationTargetException failure) {
            refuse("README.md: " + line + " failed: " + failure.getCause());
            return null;
        }
    }

    private static Object[] arguments(String given) {
        List<Object> read = new ArrayList<>();
        for (String word : given.isEmpty() ? new String[0] : given.split(", ", -1)) {
            Object one = word.equals("true") || word.equals("false") ? (Object) word.equals("true") : number(word);
            if (one == null) {
                return null;
            }
            read.add(one);
        }
        return read.toArray();
    }

    private static boolean fits(Method method, Object[] with) {
        Class<?>[] types = method.getParameterTypes();
        boolean fit = types.length == with.length;
        for (int i = 0; fit && i < types.length; i++) {
            fit = with[i] instanceof Boolean == (types[i] == boolean.class);
        }
        return fit;
    }

    private static Integer number(String word) {
        if (word.matches("-?\\d{1,9}")) {
            return Integer.valueOf(word);
        }
        return CONSTANTS.containsKey(word) ? CONSTANTS.get(word) : NUMBERS.get(word);
    }

    private static void tableOfCalls(List<String> lines) {
        Set<String> seen = new TreeSet<>();
        for (String line : lines) {
            Matcher row = TABLE_ROW.matcher(line);
            if (row.matches()) {
                int parameters = row.group(2).isEmpty() ? 0 : row.group(2).split(", ", -1).length;
                seen.add(row.group(1) + " of " + parameters);
            }
        }
        Set<String> want = new TreeSet<>();
        for (Method method : FACE.values()) {
            want.add(method.getName() + " of " + method.getParameterCount());
        }
        same("the calls in the table of README.md", seen, want);
    }

    private static void listOfTests(List<String> lines) throws IOException {
        Set<String> seen = new TreeSet<>();
        for (String line : lines) {
            Matcher entry = TEST_FILE.matcher(line);
            if (entry.matches()) {
                seen.add(entry.group(1));
            }
        }
        Set<String> want = new TreeSet<>();
        try (Stream<Path> files = Files.list(TESTS)) {
            files.forEach(file -> want.add(file.getFileName().toString()));
        }
        same("the tests that README.md tells of", seen, want);
        if (!lines.contains("    .ci/run")) {
            refuse("README.md does not say how to run the tests");
        }
    }
}
