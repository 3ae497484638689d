import java.io.IOException;
import java.lang.reflect.Constructor;
import java.lang.reflect.Field;
import java.lang.reflect.Method;
import java.lang.reflect.Modifier;
import java.nio.file.Files;
import java.nio.file.Path;
import java.util.Arrays;
import java.util.List;
import java.util.TreeSet;
import java.util.regex.Matcher;
import java.util.regex.Pattern;

/** The rules of LANGUAGE.md that can be seen from the program's text and its face. */
public final class SourceTest {
    private static final Path PROGRAM = Path.of("src/main/java/FallingWords.java");
    private static final List<String> CALLS = Arrays.asList("clearText", "complete", "count", "drop", "fault",
            "letterAt", "next", "normal", "overlapOf", "play", "reached", "reduced", "ruleOf", "step", "storeOf",
            "type", "undo", "way");
    private static final List<String> CONSTANTS = Arrays.asList("INVALID_ARGUMENT", "LIMIT_REACHED", "NOT_FOUND",
            "NOT_POSSIBLE");
    private static final String[] BANNED = {"\\bthrow\\b", "\\btry\\b", "\\bcatch\\b", "\\bsynchronized\\b",
        "\\bassert\\b", "->", "::", "\\bequals\\b", "\\bhashCode\\b", "\\btoString\\b", "Exact\\b", "\\bpackage\\b",
        "\\bimport (?!java\\.util\\.Arrays;)", "static \\{", "\\bSystem\\.(?!arraycopy)", "\\bThread\\b"};

    private final Check check = new Check();

    public static void main(String[] args) throws IOException {
        SourceTest test = new SourceTest();
        test.face();
        test.classesInside();
        test.members(FallingWords.class);
        for (Class<?> inside : FallingWords.class.getDeclaredClasses()) {
            test.members(inside);
        }
        test.text();
        test.signs();
        test.rowsAreMadeOnce();
        test.methodLengths();
        test.check.finish("SourceTest");
    }

    private void face() {
        Class<?> program = FallingWords.class;
        check.due("public and final", program.getModifiers(), Modifier.PUBLIC | Modifier.FINAL);
        TreeSet<String> shown = new TreeSet<>();
        for (Method method : program.getDeclaredMethods()) {
            if (!Modifier.isPrivate(method.getModifiers())) {
                shown.add(method.getName());
            }
        }
        check.due("the calls", shown.equals(new TreeSet<>(CALLS)) ? 1 : 0, 1);
        shown.clear();
        for (Field field : program.getDeclaredFields()) {
            if (!Modifier.isPrivate(field.getModifiers())) {
                shown.add(field.getName());
            }
        }
        check.due("the constants", shown.equals(new TreeSet<>(CONSTANTS)) ? 1 : 0, 1);
        Constructor<?>[] constructors = program.getDeclaredConstructors();
        check.due("constructors", constructors.length, 1);
        check.due("its modifiers", constructors[0].getModifiers(), Modifier.PUBLIC);
    }

    private void classesInside() {
        Class<?>[] inside = FallingWords.class.getDeclaredClasses();
        check.due("not more than 11 classes inside", inside.length <= 11 ? 1 : 0, 1);
        for (Class<?> one : inside) {
            check.due(one + " is static", Modifier.isStatic(one.getModifiers()) ? 1 : 0, 1);
            check.due(one + " is private", Modifier.isPrivate(one.getModifiers()) ? 1 : 0, 1);
            for (Method method : one.getDeclaredMethods()) {
                check.due(method + " bears no name of the face", CALLS.contains(method.getName()) ? 1 : 0, 0);
            }
        }
    }

    /** No static state, not too many fields beside the constants, nor parameters. */
    private void members(Class<?> owner) {
        int fields = 0;
        for (Field field : owner.getDeclaredFields()) {
            if (Modifier.isStatic(field.getModifiers())) {
                boolean constant = Modifier.isFinal(field.getModifiers()) && field.getType() == int.class;
                check.due(field + " is a constant", constant ? 1 : 0, 1);
            } else {
                fields++;
            }
        }
        check.due(owner + " has not more than 20 fields beside constants", fields <= 20 ? 1 : 0, 1);
        for (Method method : owner.getDeclaredMethods()) {
            check.due(method + " has not more than 7 parameters", method.getParameterCount() <= 7 ? 1 : 0, 1);
        }
    }

    private void signs() throws IOException {
        for (byte sign : Files.readAllBytes(PROGRAM)) {
            if (sign != '\n') {
                check.due("the sign " + sign + " is a plain one", sign >= ' ' && sign < 127 ? 1 : 0, 1);
            }
        }
    }

    /** What a run makes is counted, so objects and arrays come with fields and a constructor alone. */
    private void rowsAreMadeOnce() throws IOException {
        for (String line : Files.readAllLines(PROGRAM)) {
            if (line.contains(" new ")) {
                boolean once = line.matches(" +private final \\S+ \\w+ = new .*")
                        || line.trim().equals("states[i] = new State();");
                check.due(line.trim() + " makes it once for an object", once ? 1 : 0, 1);
            }
        }
    }

    private void text() throws IOException {
        String text = Files.readString(PROGRAM).replaceAll("(?s)/\\*.*?\\*/", "").replaceAll("//.*", "");
        for (String banned : BANNED) {
            Matcher found = Pattern.compile(banned).matcher(text);
            check.due("a place with " + banned, found.find() ? 1 : 0, 0);
        }
    }

    /** A method begins at a line that ends with ") {" and ends at a brace that stands as far in. */
    private void methodLengths() throws IOException {
        Pattern head = Pattern.compile("( +)(public|private) [^=;]*\\) \\{");
        List<String> lines = Files.readAllLines(PROGRAM);
        for (int i = 0; i < lines.size(); i++) {
            Matcher begin = head.matcher(lines.get(i));
            if (begin.matches()) {
                int length = lines.subList(i, lines.size()).indexOf(begin.group(1) + "}") + 1;
                check.due(lines.get(i).trim() + " has not more than 60 lines", length <= 60 ? 1 : 0, 1);
            }
        }
    }
}
