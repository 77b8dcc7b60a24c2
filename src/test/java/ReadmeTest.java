import java.io.IOException;
import java.lang.reflect.Method;
import java.nio.file.Files;
import java.nio.file.Path;
import java.util.ArrayList;
import java.util.List;
import java.util.regex.Matcher;
import java.util.regex.Pattern;
import java.util.stream.Stream;

/** What README.md says of the class: its example answers as told, and every call and every test is named. */
final class ReadmeTest {
    private static final Path PAGE = Path.of("README.md");
    private static final Path TESTS = Path.of("src/test/java");
    private static final Pattern EXAMPLE = Pattern.compile("(?s)```java\n(.*?)```");
    private static final Pattern TEXT = Pattern.compile("String text = \"(.*?)\";");
    private static final Pattern CALL = Pattern.compile("^x\\.(\\w+)\\(([-0-9, ]*)\\); +// (-?\\d+): ");
    private static final int LEAST_CALLS = 10;
    private static int wrong = 0;
    private static int asked = 0;

    private static void due(String what, Object got, Object want) {
        asked++;
        if (!got.equals(want)) {
            wrong++;
            System.out.println(what + " is " + got + ", due is " + want);
        }
    }

    public static void main(String[] args) throws Exception {
        String page = Files.readString(PAGE);
        example(page);
        calls(page);
        tests(page);
        System.out.println("the README: " + asked + " looked at, " + wrong + " wrong");
        if (wrong != 0) System.exit(1);
    }

    private static void example(String page) throws Exception {
        Matcher block = EXAMPLE.matcher(page);
        due("an example", block.find(), true);
        String code = block.group(1);
        Matcher text = TEXT.matcher(code);
        due("its text", text.find(), true);
        StatueVotes x = new StatueVotes();
        for (char letter : text.group(1).toCharArray()) x.feed(letter);
        int made = 0;
        for (String line : code.split("\n")) {
            if (!line.startsWith("x.")) continue;
            made++;
            answer(x, line);
        }
        due("calls in the example, enough", made >= LEAST_CALLS, true);
    }

    private static void answer(StatueVotes x, String line) throws Exception {
        Matcher call = CALL.matcher(line);
        boolean tells = call.find();
        due("'" + line + "' tells its answer", tells, true);
        if (!tells) return;
        Object[] numbers = Stream.of(call.group(2).split(",")).map(String::trim).filter(n -> !n.isEmpty())
            .map(Integer::valueOf).toArray();
        due(line, named(call.group(1)).invoke(x, numbers), Integer.valueOf(call.group(3)));
    }

    private static List<Method> face() {
        List<Method> all = new ArrayList<>();
        for (Method m : StatueVotes.class.getMethods()) if (m.getDeclaringClass() == StatueVotes.class) all.add(m);
        return all;
    }

    private static Method named(String name) {
        for (Method m : face()) if (m.getName().equals(name)) return m;
        throw new IllegalArgumentException("the class has no " + name);
    }

    private static void calls(String page) {
        for (Method m : face()) due(m.getName() + " is named", page.contains("`" + m.getName() + "`"), true);
    }

    private static void tests(String page) throws IOException {
        try (Stream<Path> files = Files.list(TESTS)) {
            for (Path file : (Iterable<Path>) files.sorted()::iterator) {
                String name = file.getFileName().toString().replace(".java", "");
                if (name.endsWith("Test")) due(name + " is named", page.contains("`" + name + "`"), true);
            }
        }
    }
}
