import java.io.IOException;
import java.lang.reflect.InvocationTargetException;
import java.lang.reflect.Method;
import java.lang.reflect.Modifier;
import java.nio.file.Files;
import java.nio.file.Path;
import java.util.ArrayList;
import java.util.List;
import java.util.Map;
import java.util.TreeMap;
import java.util.TreeSet;
import java.util.regex.Matcher;
import java.util.regex.Pattern;
import java.util.stream.Stream;

/** README.md says what is so: its example, its table of calls and what they answer when refused, its tests. */
public final class ReadmeTest {
    private static final Pattern EXAMPLE = Pattern.compile("x\\.(\\w+)\\((.*)\\); +// (-?\\d+|true|false): .+");
    private static final Pattern ROW = Pattern.compile("\\| `(\\w+)\\((.*)\\)` \\| .+ \\| .+ \\| (\\S+) \\|");
    private static final int NUMBERS_OUT_OF_BOUNDS = Integer.MIN_VALUE;
    private static final Check CHECK = new Check("ReadmeTest");
    private static final Map<String, Method> FACE = new TreeMap<>();

    public static void main(String[] args) throws IOException, IllegalAccessException {
        for (Method m : GongHouse.class.getDeclaredMethods()) {
            if (Modifier.isPublic(m.getModifiers())) {
                FACE.put(m.getName(), m);
            }
        }
        List<String> lines = Files.readAllLines(Path.of("README.md"));
        example(lines);
        refusals(lines);
        tests(String.join("\n", lines));
        CHECK.finish();
    }

    private static void example(List<String> lines) throws IllegalAccessException {
        GongHouse x = new GongHouse();
        int done = 0;
        for (String line : lines) {
            if (line.startsWith("x.")) {
                Matcher m = EXAMPLE.matcher(line);
                CHECK.due(line + " has the form of an example", m.matches(), true);
                if (m.matches()) {
                    String got = answer(x, m.group(1), numbers(m.group(1), m.group(2)));
                    CHECK.due(line + " (" + got + ")", got.equals(m.group(3)), true);
                    done++;
                }
            }
        }
        CHECK.due("examples", done > 0, true);
    }

    /** On a new object, by numbers far out of bounds, every call is refused; feed alone needs a full tape. */
    private static void refusals(List<String> lines) throws IllegalAccessException {
        TreeSet<String> told = new TreeSet<>();
        for (String line : lines) {
            Matcher m = ROW.matcher(line);
            if (line.startsWith("| `")) {
                CHECK.due(line + " has the form of a row", m.matches(), true);
            }
            if (m.matches() && FACE.containsKey(m.group(1))) {
                String name = m.group(1);
                CHECK.due(name + " is told once", told.add(name), true);
                int parameters = m.group(2).isEmpty() ? 0 : m.group(2).split(", ").length;
                CHECK.due(name + "'s parameters", parameters, FACE.get(name).getParameterCount());
                String got = answer(fullTape(), name, outOfBounds(name));
                CHECK.due(name + " is refused by " + got, got.equals(plain(m.group(3))), true);
            }
        }
        CHECK.due("calls told are " + told, told.equals(FACE.keySet()), true);
    }

    private static GongHouse fullTape() {
        GongHouse x = new GongHouse();
        CHECK.due("the tape", Check.tape(x, " ".repeat(240)), 240);
        return x;
    }

    private static String plain(String cell) {
        switch (cell) {
            case "NONE":
                return "-1";
            case "HIDDEN":
                return "-1000000";
            default:
                return cell;
        }
    }

    private static List<Object> numbers(String name, String written) {
        List<Object> numbers = new ArrayList<>();
        if (!written.isEmpty()) {
            for (String number : written.split(", ")) {
                numbers.add(Math.toIntExact(Long.decode(number)));
            }
        }
        CHECK.due(name + "'s numbers", numbers.size(), FACE.get(name).getParameterCount());
        return numbers;
    }

    private static List<Object> outOfBounds(String name) {
        List<Object> numbers = new ArrayList<>();
        for (Class<?> type : FACE.get(name).getParameterTypes()) {
            if (type == boolean.class) {
                numbers.add(false);
            } else if (type == long.class) {
                numbers.add((long) NUMBERS_OUT_OF_BOUNDS);
            } else {
                numbers.add(NUMBERS_OUT_OF_BOUNDS);
            }
        }
        return numbers;
    }

    private static String answer(GongHouse x, String name, List<Object> numbers) throws IllegalAccessException {
        try {
            return String.valueOf(FACE.get(name).invoke(x, numbers.toArray()));
        } catch (InvocationTargetException e) {
            return e.getCause().getClass().getSimpleName();
        }
    }

    private static void tests(String readme) throws IOException {
        try (Stream<Path> files = Files.list(Path.of("src/test/java"))) {
            for (Path file : (Iterable<Path>) files::iterator) {
                String name = file.getFileName().toString().replace(".java", "");
                if (name.endsWith("Test")) {
                    CHECK.due(name + " is told", readme.contains("`" + name + "`"), true);
                }
            }
        }
    }
}
