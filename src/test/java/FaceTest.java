import java.io.IOException;
import java.lang.reflect.Constructor;
import java.lang.reflect.Field;
import java.lang.reflect.Method;
import java.lang.reflect.Modifier;
import java.nio.file.Files;
import java.nio.file.Path;
import java.util.ArrayList;
import java.util.Arrays;
import java.util.List;
import java.util.Set;
import java.util.TreeSet;

/** The public face, and those rules of LANGUAGE.md that can be looked up in the class and its source. */
public final class FaceTest {
    private static final String[] FACE = {
        "int feed(int,int,int,int,int)", "boolean end(int)", "int fault(int)", "int text(int)", "int rule(int)",
        "int dish(int,int)", "int guest(int,int)", "boolean law(int)", "boolean fever(int)", "int day()",
        "int choose(int)", "int ill()", "int makeUp()", "int stay(int,int)", "int sign(int,int)",
        "int years(int,long)", "int undo()", "int log(int,int)", "int step(int,int,int)", "int run(int,int)",
        "int perform(int)", "int serves(int,int)", "int there(int)", "int fed(int)", "int best(int,int)",
        "int madeUp(int)", "int seen(int,int,int,int,boolean)", "int likes(int)", "int probe(int,int,int)",
        "int leaves(int)", "int game(int,int,int,int,int)", "int rests(int,int,int)", "int odds(int,int,int)",
        "int all(int)", "int kinds(int)", "int staying(int)", "int image()", "int back()", "int count(int)"
    };
    private static final String[] FORBIDDEN = {
        "->", "::", "synchronized", "assert ", "finally", "try ", "catch", "instanceof", "java.util.Random",
        "System.nano", "System.current", "hashCode", "toString", "static {", "while (true)", "for (;;)", "Exact("
    };
    private static final Check CHECK = new Check("FaceTest");

    public static void main(String[] args) throws IOException {
        face();
        inside();
        source();
        CHECK.due("NONE", GongHouse.NONE, -1);
        CHECK.due("HIDDEN", GongHouse.HIDDEN, -1000000);
        CHECK.finish();
    }

    private static void face() {
        Set<String> seen = new TreeSet<>();
        for (Method m : GongHouse.class.getDeclaredMethods()) {
            if (!Modifier.isPrivate(m.getModifiers())) {
                List<String> types = new ArrayList<>();
                for (Class<?> type : m.getParameterTypes()) {
                    types.add(type.getName());
                }
                seen.add(m.getReturnType().getName() + " " + m.getName() + "(" + String.join(",", types) + ")");
                CHECK.due(m + " is public", Modifier.isPublic(m.getModifiers()), true);
            }
        }
        CHECK.due("face is " + seen, seen.equals(new TreeSet<>(Arrays.asList(FACE))), true);
        for (Field f : GongHouse.class.getDeclaredFields()) {
            boolean constant = f.getName().equals("NONE") || f.getName().equals("HIDDEN");
            CHECK.due(f + " is as it should be", Modifier.isPublic(f.getModifiers()), constant);
            CHECK.due(f + " is private or public", Modifier.isPrivate(f.getModifiers()), !constant);
        }
        for (Constructor<?> c : GongHouse.class.getDeclaredConstructors()) {
            CHECK.due(c + " has no parameters", c.getParameterCount(), 0);
        }
        CHECK.due("final", Modifier.isFinal(GongHouse.class.getModifiers()), true);
    }

    private static void inside() {
        Set<String> publicNames = new TreeSet<>();
        for (String one : FACE) {
            publicNames.add(one.substring(one.indexOf(' ') + 1, one.indexOf('(')));
        }
        List<Class<?>> classes = new ArrayList<>(Arrays.asList(GongHouse.class.getDeclaredClasses()));
        CHECK.due(classes.size() + " classes", classes.size() <= 12, true);
        classes.add(GongHouse.class);
        for (Class<?> c : classes) {
            int fields = 0;
            for (Field f : c.getDeclaredFields()) {
                boolean isStatic = Modifier.isStatic(f.getModifiers());
                fields += isStatic ? 0 : 1;
                CHECK.due(f + " static and not final", isStatic && !Modifier.isFinal(f.getModifiers()), false);
            }
            CHECK.due(c + " has " + fields + " fields", fields <= 20, true);
            for (Method m : c.getDeclaredMethods()) {
                CHECK.due(m + " has seven parameters at most", m.getParameterCount() <= 7, true);
                if (!Modifier.isPublic(m.getModifiers())) {
                    CHECK.due(m + " bears a public name", publicNames.contains(m.getName()), false);
                }
            }
        }
    }

    private static void source() throws IOException {
        List<String> lines = Files.readAllLines(Path.of("src/main/java/GongHouse.java"));
        int methodFrom = -1;
        for (int i = 0; i < lines.size(); i++) {
            String line = lines.get(i);
            for (String word : FORBIDDEN) {
                CHECK.due("line " + (i + 1) + " has " + word, line.contains(word), false);
            }
            if (line.startsWith("import ")) {
                boolean fine = line.equals("import java.util.Arrays;")
                    || line.equals("import java.util.NoSuchElementException;");
                CHECK.due(line, fine, true);
            }
            if (line.matches(" {4}(?: {4})?(?:public|private) .*\\).* \\{")) {
                methodFrom = i;
            }
            if (methodFrom >= 0 && line.matches(" {4}(?: {4})?\\}")) {
                CHECK.due("lines from " + (methodFrom + 1), i - methodFrom < 60, true);
                methodFrom = -1;
            }
        }
    }
}
