import java.lang.reflect.InvocationTargetException;
import java.lang.reflect.Method;
import java.util.ArrayList;
import java.util.Arrays;
import java.util.Comparator;
import java.util.List;
import java.util.Random;

/** Drawn runs of calls on GongHouse and on Model: every call must answer the same, or throw the same. */
public final class ModelTest {
    private static final int RUNS = 400;
    private static final int TEXTS = 60000;
    private static final int MOST_CALLS = 512;
    private static final String[] SIGNS = {
        "sdgwckhalsp;0123456789 ", "y:?!&|()[]=<>+-*/wlfnpd0123456789; ", "dciux;0123456789 "
    };

    private final Random random;
    private final List<String> told = new ArrayList<>();
    private final GongHouse house = new GongHouse();
    private final Model model = new Model();
    private int calls = 0;

    private ModelTest(long seed) {
        random = new Random(seed);
    }

    public static void main(String[] args) throws Exception {
        int runs = args.length > 0 ? Integer.parseInt(args[0]) : RUNS;
        List<Method> methods = new ArrayList<>();
        for (Method m : GongHouse.class.getDeclaredMethods()) {
            if (java.lang.reflect.Modifier.isPublic(m.getModifiers())) {
                methods.add(m);
            }
        }
        methods.sort(Comparator.comparing(Method::getName));
        for (int seed = 0; seed < runs; seed++) {
            new ModelTest(seed).run(methods);
        }
        faults(args.length > 1 ? Integer.parseInt(args[1]) : TEXTS);
        System.out.println("ModelTest: " + runs + " runs are alike");
    }

    private static void faults(int texts) {
        ModelTest test = new ModelTest(-7);
        int whole = 0;
        for (int i = 0; i < texts; i++) {
            int sort = i % 3;
            String text = test.cut(i % 2 == 0 ? test.text(sort) : test.textAtBounds(sort));
            text = test.spoilt(text, sort);
            GongHouse x = new GongHouse();
            Check.tape(x, text);
            int want = sort == 0 ? Model.houseFault(text) : sort == 1 ? Model.lawFault(text) : Model.weekFault(text);
            int got = x.fault(sort);
            whole += want == -1 ? 1 : 0;
            if (got != want) {
                System.out.println("fault(" + sort + ") of '" + text + "' answered " + got + ", due is " + want);
                System.exit(1);
            }
        }
        System.out.println("ModelTest: " + whole + " of " + texts + " texts are without a fault");
    }

    private void run(List<Method> methods) throws Exception {
        while (calls < MOST_CALLS) {
            int sort = calls == 0 ? 0 : random.nextInt(40);
            if (sort == 0 && calls > 0 && random.nextInt(4) != 0) {
                sort = 3;
            }
            if (sort < 3) {
                String text = text(sort);
                if (random.nextInt(6) == 0) {
                    text = spoilt(text, sort);
                }
                give(text);
                both("fault", sort);
                both("text", sort);
                if (sort == 1) {
                    both("law", random.nextInt(5) - 1);
                }
                continue;
            }
            Method m = methods.get(random.nextInt(methods.size()));
            if (random.nextInt(3) == 0) {
                m = methods.stream().filter(k -> k.getName().equals("day")).findFirst().get();
            }
            if (m.getName().equals("feed") || m.getName().equals("end") && random.nextInt(3) > 0) {
                continue;
            }
            both(m, drawn(m));
        }
    }

    private void give(String text) throws Exception {
        both("end", 0);
        for (int from = 0; from < text.length(); from += 20) {
            int[] five = Check.fives(text.substring(from, Math.min(text.length(), from + 20)));
            both("feed", five[0], five[1], five[2], five[3], five[4]);
        }
    }

    private void both(String name, Object... args) throws Exception {
        for (Method m : GongHouse.class.getDeclaredMethods()) {
            if (m.getName().equals(name)) {
                both(m, args);
            }
        }
    }

    private void both(Method m, Object[] args) throws Exception {
        if (calls == MOST_CALLS) {
            return;
        }
        calls++;
        Object got = answer(m, house, args);
        Object want = answer(Model.class.getMethod(m.getName(), m.getParameterTypes()), model, args);
        told.add(m.getName() + Arrays.toString(args) + " = " + got);
        if (!got.equals(want)) {
            for (String line : told) {
                System.out.println(line);
            }
            System.out.println("due is " + want);
            System.exit(1);
        }
    }

    private static Object answer(Method m, Object on, Object[] args) throws Exception {
        try {
            m.setAccessible(true);
            return m.invoke(on, args);
        } catch (InvocationTargetException e) {
            return e.getCause().getClass().getName();
        }
    }

    private Object[] drawn(Method m) {
        Class<?>[] types = m.getParameterTypes();
        Object[] args = new Object[types.length];
        for (int i = 0; i < types.length; i++) {
            if (types[i] == boolean.class) {
                args[i] = random.nextBoolean();
            } else if (types[i] == long.class) {
                args[i] = random.nextLong();
            } else {
                args[i] = number();
            }
        }
        return args;
    }

    private int number() {
        switch (random.nextInt(12)) {
            case 0:
                return random.nextInt(30) - 10;
            case 1:
                return random.nextInt(110);
            case 2:
                return random.nextInt(40) == 0 ? random.nextInt() : random.nextInt(14);
            case 3: case 4:
                return random.nextInt(7) - 1;
            default:
                return random.nextInt(3);
        }
    }

    // ---- texts ----

    private String text(int sort) {
        return cut(sort == 0 ? houseText() : sort == 1 ? lawText() : weekText(1 + random.nextInt(12)));
    }

    private String cut(String text) {
        return text.length() > 240 ? text.substring(0, 240) : text;
    }

    /** A text that has about as much of something as there may be, or a little more. */
    private String textAtBounds(int sort) {
        return sort == 0 ? fullHouseText() : sort == 1 ? deepLawText() : weekText(14 + random.nextInt(5));
    }

    /** Nearly all clauses that a house may have, then some more of any sort, as short as can be. */
    private String fullHouseText() {
        List<String> clauses = new ArrayList<>(Arrays.asList("s;d;d;d;d;d;g;g;g;g;g;g".split(";")));
        java.util.Collections.shuffle(clauses, random);
        for (int i = random.nextInt(3); i > 0; i--) {
            clauses.remove(random.nextInt(clauses.size()));
        }
        for (int i = random.nextInt(4); i > 0; i--) {
            clauses.add("" + "sdg;".charAt(random.nextInt(4)));
        }
        return blanks(String.join(";", clauses));
    }

    /** Five to eight of ( [ ! within one another, all of them closed again. */
    private String deepLawText() {
        StringBuilder text = new StringBuilder("y:");
        int left = 5 + random.nextInt(4);
        String closing = "";
        for (int i = random.nextInt(left + 1); i > 0; i--) {
            boolean not = random.nextBoolean();
            text.append(not ? "!" : "(");
            closing = (not ? "" : ")") + closing;
            left--;
        }
        boolean behind = random.nextBoolean();
        text.append(behind ? "w>" : "").append("[[[[[[[[", 0, left).append("l]]]]]]]]", 0, 1 + left);
        text.append(behind ? "" : "<f").append(closing).append("?1");
        return blanks(text.toString());
    }

    private String houseText() {
        List<String> clauses = new ArrayList<>();
        if (random.nextInt(4) > 0) {
            clauses.add("s" + item("l", 0, 3) + item("h", 0, 9) + item("c", 0, 99));
        }
        for (int i = 1 + random.nextInt(5); i > 0; i--) {
            clauses.add("d" + item("w", 0, 20) + item("c", 0, 9) + item("k", 0, 3));
        }
        for (int i = 1 + random.nextInt(6); i > 0; i--) {
            clauses.add("g" + item("a", 0, random.nextInt(3) == 0 ? 20 : 6) + item("s", 1, 20)
                + item("l", 0, 3) + item("p", 0, 9));
        }
        java.util.Collections.shuffle(clauses, random);
        return blanks(String.join(";", clauses));
    }

    private String item(String letter, int least, int most) {
        return random.nextInt(3) == 0 ? "" : letter + (least + random.nextInt(most - least + 1));
    }

    private String weekText(int steps) {
        StringBuilder text = new StringBuilder();
        for (int i = steps - 1; i >= 0; i--) {
            int what = random.nextInt(8);
            text.append(what > 4 ? "d" : what == 1 ? "c" + random.nextInt(4) : what == 4
                ? "x" + random.nextInt(5) + random.nextInt(10) : "" + "dciux".charAt(what));
            text.append(i > 0 ? ";" : "");
        }
        return blanks(text.toString());
    }

    private String lawText() {
        StringBuilder text = new StringBuilder();
        for (int i = random.nextInt(3); i >= 0; i--) {
            text.append("y:");
            text.append(random.nextInt(3) > 0 ? condition(0) + "?" : "");
            text.append(sum(0)).append(i > 0 ? ";" : "");
        }
        return blanks(text.toString());
    }

    private String condition(int depth) {
        StringBuilder text = new StringBuilder(unit(depth));
        while (random.nextInt(3) == 0) {
            text.append(random.nextBoolean() ? "|" : "&").append(unit(depth));
        }
        return text.toString();
    }

    private String unit(int depth) {
        int which = random.nextInt(6);
        if (depth < 6 && which == 0) {
            return "!" + unit(depth + 1);
        }
        if (depth < 6 && which == 1) {
            return "(" + condition(depth + 1) + ")";
        }
        return sum(depth) + "=<>".charAt(random.nextInt(3)) + sum(depth);
    }

    private String sum(int depth) {
        StringBuilder text = new StringBuilder(atom(depth));
        while (random.nextInt(3) == 0) {
            text.append("+-*/".charAt(random.nextInt(4))).append(atom(depth));
        }
        return text.toString();
    }

    private String atom(int depth) {
        int which = random.nextInt(7);
        if (depth < 6 && which == 0) {
            return "[" + sum(depth + 1) + "]";
        }
        if (which < 3) {
            return "" + random.nextInt(which == 1 ? 12 : 10000);
        }
        return "" + "wlfnpd".charAt(random.nextInt(6));
    }

    private String blanks(String text) {
        if (random.nextInt(3) > 0) {
            return text;
        }
        StringBuilder wide = new StringBuilder();
        for (int i = 0; i < text.length(); i++) {
            boolean within = i > 0 && Character.isDigit(text.charAt(i)) && Character.isDigit(text.charAt(i - 1));
            wide.append(!within && random.nextInt(4) == 0 ? " " : "").append(text.charAt(i));
        }
        return wide.toString();
    }

    /** A sign more, less or another, or none of these. */
    private String spoilt(String text, int sort) {
        StringBuilder other = new StringBuilder(text);
        String signs = SIGNS[sort];
        for (int i = random.nextInt(3); i > 0; i--) {
            int at = random.nextInt(other.length() + 1);
            char sign = random.nextInt(20) == 0 ? (char) (1 + random.nextInt(255))
                : signs.charAt(random.nextInt(signs.length()));
            int how = random.nextInt(4);
            if (how == 0 && other.length() < 240) {
                other.insert(at, sign);
            } else if (how == 1 && at < other.length()) {
                other.deleteCharAt(at);
            } else if (how == 2 && at < other.length()) {
                other.setCharAt(at, sign);
            } else if (how == 3) {
                other.setLength(at);
            }
        }
        return other.toString();
    }
}
