import java.io.IOException;
import java.lang.reflect.InvocationTargetException;
import java.lang.reflect.Method;
import java.lang.reflect.Modifier;
import java.nio.file.Files;
import java.nio.file.Path;
import java.util.ArrayList;
import java.util.List;
import java.util.regex.Matcher;
import java.util.regex.Pattern;
import java.util.stream.Stream;

/** What README.md tells: the answers of its examples, the calls of the face, the tests. Runs in the project's folder. */
public final class ReadmeTest {
    private static final Path PAGE = Path.of("README.md");
    private static final Path TESTS = Path.of("src/test/java");
    private static final String NEW_OBJECT = "ShadowPager x = new ShadowPager();";
    private static final Pattern CALL = Pattern.compile("x\\.(\\w+)\\((.*)\\); *// (\\S+)");
    private static final Pattern READ = Pattern.compile("read\\(x, (.*)\\); *// (\\S+)");
    private static final Pattern QUOTED = Pattern.compile("\"([^\"]*)\"");
    // so that a page whose examples were lost doesn't pass
    private static final int LEAST_CALLS = 50;

    private final Checks c = new Checks();
    private final String page;
    private ShadowPager x;
    private int calls;

    private ReadmeTest(String page) {
        this.page = page;
    }

    public static void main(String[] args) throws IOException, ReflectiveOperationException {
        ReadmeTest t = new ReadmeTest(Files.readString(PAGE));
        t.examples();
        t.functionOfThePage();
        t.callsOfTheFace();
        t.namesOfTests();
        t.c.end();
    }

    static int read(ShadowPager x, String text) {
        int[] fours = new int[(text.length() + 19) / 20 * 5];
        for (int i = 0; i < fours.length * 4; i++) {
            fours[i / 4] = fours[i / 4] << 8 | (i < text.length() ? text.charAt(i) : ' ');
        }
        for (int i = 0; i < fours.length; i += 5) {
            x.feed(fours[i], fours[i + 1], fours[i + 2], fours[i + 3], fours[i + 4]);
        }
        return x.machine(text.length());
    }

    /** What stands between the fences of Java on the page. */
    private List<String> blocks() {
        List<String> blocks = new ArrayList<>();
        Matcher m = Pattern.compile("```java\n(.*?)```", Pattern.DOTALL).matcher(page);
        while (m.find()) {
            blocks.add(m.group(1));
        }
        return blocks;
    }

    private void examples() throws ReflectiveOperationException {
        c.part("an example of README.md");
        for (String block : blocks()) {
            if (block.startsWith(NEW_OBJECT)) {
                // a text that is told in several lines comes to stand in one
                for (String line : block.replaceAll("\n *\\+", " +").split("\n")) {
                    example(line);
                }
            }
        }
        c.due("there are examples enough", true, calls >= LEAST_CALLS);
    }

    private void example(String line) throws ReflectiveOperationException {
        Matcher call = CALL.matcher(line);
        Matcher text = READ.matcher(line);
        if (line.equals(NEW_OBJECT)) {
            x = new ShadowPager();
        } else if (text.matches()) {
            c.due(line, number(text.group(2)), read(x, joined(text.group(1))));
            calls++;
        } else if (call.matches()) {
            c.due(line, number(call.group(3)), answer(call.group(1), call.group(2)));
            calls++;
        } else {
            c.due("only a remark may stand without an answer: " + line, true, line.isEmpty() || line.startsWith("//"));
        }
    }

    private static String joined(String parts) {
        StringBuilder text = new StringBuilder();
        Matcher m = QUOTED.matcher(parts);
        while (m.find()) {
            text.append(m.group(1));
        }
        return text.toString();
    }

    private static long number(String told) {
        return told.equals("true") ? 1 : told.equals("false") ? 0 : Long.parseLong(told);
    }

    private long answer(String name, String told) throws ReflectiveOperationException {
        String[] parts = told.isEmpty() ? new String[0] : told.split(", ");
        Object[] values = new Object[parts.length];
        for (int i = 0; i < parts.length; i++) {
            boolean truth = parts[i].equals("true") || parts[i].equals("false");
            values[i] = truth ? (Object) Boolean.valueOf(parts[i]) : (Object) Integer.valueOf(parts[i]);
        }
        try {
            return number(String.valueOf(methodNamed(name).invoke(x, values)));
        } catch (InvocationTargetException e) {
            throw new IllegalStateException(name + " threw", e.getCause());
        }
    }

    private static Method methodNamed(String name) {
        for (Method m : ShadowPager.class.getDeclaredMethods()) {
            if (Modifier.isPublic(m.getModifiers()) && m.getName().equals(name)) {
                return m;
            }
        }
        throw new IllegalStateException("no call is named " + name);
    }

    /** The function that the page shows is the one that its examples were read by. */
    private void functionOfThePage() throws IOException {
        c.part("the function of README.md");
        String own = Files.readString(TESTS.resolve("ReadmeTest.java"));
        int shown = 0;
        for (String block : blocks()) {
            if (!block.startsWith(NEW_OBJECT)) {
                shown++;
                c.due("it stands in ReadmeTest", true, own.contains(block.indent(4)));
            }
        }
        c.due("how many", 1, shown);
    }

    private void callsOfTheFace() {
        c.part("the calls in README.md");
        for (Method m : ShadowPager.class.getDeclaredMethods()) {
            if (Modifier.isPublic(m.getModifiers())) {
                Matcher told = Pattern.compile("`" + m.getName() + "\\(([^)]*)\\)`").matcher(page);
                boolean found = told.find();
                c.due(m.getName() + " is told", true, found);
                if (found) {
                    String names = told.group(1);
                    c.due(m.getName() + " takes", m.getParameterCount(), names.isEmpty() ? 0 : names.split(", ").length);
                }
            }
        }
    }

    private void namesOfTests() throws IOException {
        c.part("the tests in README.md");
        try (Stream<Path> files = Files.list(TESTS)) {
            for (Path file : (Iterable<Path>) files.sorted()::iterator) {
                String name = file.getFileName().toString().replace(".java", "");
                c.due(name + " is told", true, page.contains("`" + name + "`"));
            }
        }
    }
}
