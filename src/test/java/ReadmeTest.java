import java.io.IOException;
import java.lang.reflect.InvocationTargetException;
import java.lang.reflect.Method;
import java.lang.reflect.Modifier;
import java.nio.file.DirectoryStream;
import java.nio.file.Files;
import java.nio.file.Path;
import java.util.regex.Matcher;
import java.util.regex.Pattern;

/** README.md must not tell what the program does not do: its example is run as it stands there. */
public final class ReadmeTest {
    private static final Path README = Path.of("README.md");
    private static final Path TESTS = Path.of("src/test/java");
    private static final Pattern EXAMPLE = Pattern.compile("(?s)```java\n(.*?)```");
    private static final Pattern TYPED = Pattern.compile("\"([^\"]*)\"\\.toCharArray\\(\\)");
    private static final Pattern COMMAND = Pattern.compile("(?m)^\\| `([^`]*;)` \\|");

    /** A call with its answer at the head of the comment behind it. */
    private static final Pattern CALL = Pattern.compile("words\\.(\\w+)\\(([-0-9, ]*)\\);\\s*// (-?\\d+)\\b.*");

    private final Check check = new Check();
    private final String readme;

    private ReadmeTest(String readme) {
        this.readme = readme;
    }

    public static void main(String[] args) throws IOException, ReflectiveOperationException {
        ReadmeTest test = new ReadmeTest(Files.readString(README));
        test.example();
        test.commands();
        test.callsAreNamed();
        test.testsAreNamed();
        test.check.finish("ReadmeTest");
    }

    private void example() throws ReflectiveOperationException {
        Matcher example = EXAMPLE.matcher(readme);
        check.due("an example is there", example.find() ? 1 : 0, 1);
        Matcher typed = TYPED.matcher(example.group(1));
        check.due("a text is typed in it", typed.find() ? 1 : 0, 1);
        FallingWords words = new FallingWords();
        Check.write(words, typed.group(1));
        int calls = 0;
        for (String line : example.group(1).split("\n")) {
            if (line.startsWith("words.")) {
                Matcher call = CALL.matcher(line);
                check.due("the answer stands behind " + line, call.matches() ? 1 : 0, 1);
                check.due(line, answer(words, call.group(1), call.group(2)), Integer.parseInt(call.group(3)));
                calls++;
            }
        }
        check.due("the example has calls", calls > 0 ? 1 : 0, 1);
    }

    private static int answer(FallingWords words, String call, String arguments)
            throws NoSuchMethodException, IllegalAccessException, InvocationTargetException {
        String[] told = arguments.isEmpty() ? new String[0] : arguments.split(", ");
        Object[] numbers = new Object[told.length];
        Class<?>[] types = new Class<?>[told.length];
        for (int i = 0; i < told.length; i++) {
            numbers[i] = Integer.valueOf(told[i]);
            types[i] = int.class;
        }
        Method method = FallingWords.class.getMethod(call, types);
        return (Integer) method.invoke(words, numbers);
    }

    /** Each command of the table can be done where there is a rule that applies to the word. */
    private void commands() {
        Matcher command = COMMAND.matcher(readme);
        int commands = 0;
        while (command.find()) {
            check.dueNoFault(Check.played("+b>;=ab;"), command.group(1), 1);
            commands++;
        }
        check.due("commands of the table", commands, 6);
    }

    private void callsAreNamed() {
        for (Method method : FallingWords.class.getDeclaredMethods()) {
            if (Modifier.isPublic(method.getModifiers())) {
                check.due("README names " + method.getName(), isNamed("`" + method.getName() + "`"), 1);
            }
        }
    }

    private void testsAreNamed() throws IOException {
        try (DirectoryStream<Path> files = Files.newDirectoryStream(TESTS, "*Test.java")) {
            for (Path file : files) {
                String name = file.getFileName().toString().replace(".java", "");
                check.due("README names " + name, isNamed("| " + name + " |"), 1);
            }
        }
        for (String line : readme.split("\n")) {
            String[] cells = line.split("\\|");
            if (cells.length > 1 && cells[1].trim().endsWith("Test")) {
                Path file = TESTS.resolve(cells[1].trim() + ".java");
                check.due("there is " + file, Files.exists(file) ? 1 : 0, 1);
            }
        }
    }

    private int isNamed(String name) {
        return readme.contains(name) ? 1 : 0;
    }
}
