import java.io.IOException;
import java.lang.reflect.Method;
import java.lang.reflect.Modifier;
import java.nio.file.Files;
import java.nio.file.Path;
import java.util.ArrayList;
import java.util.List;
import java.util.regex.Matcher;
import java.util.regex.Pattern;

/** README.md: its example answers as it says, and its tables name every method and exception. */
public final class ReadmeTest {
    private static final Pattern STATEMENT = Pattern.compile("(.*);(?:\\s*// (.*))?");
    private static final Pattern VALUE = Pattern.compile("(-?\\d+|true|false)(:.*)?");
    private static final Pattern ROW = Pattern.compile("\\| `(\\w+)\\((.*?)\\)` \\| (.+?) \\|(.*)\\|");
    private static final Pattern EXCEPTION = Pattern.compile("`(\\w+Exception)`");
    private static final Checks CHECKS = new Checks();

    public static void main(String[] args) throws IOException {
        example();
        List<String> readme = Files.readAllLines(Path.of("README.md"));
        CHECKS.same("the example of README.md", ownExample(), exampleOf(readme));
        CHECKS.same("the methods of README.md", face(), methodsOf(readme));
        testsAreTold(String.join("\n", readme));
        CHECKS.finish("ReadmeTest");
    }

    /** The statements of README.md one by one; an answer that it tells is the first argument of is. */
    private static void example() {
        SnowNode node = new SnowNode(7, 2, 2, 1, 3);
        node.feed(0x01000000);
        node.feed(0x00010000);
        node.feed(0x00000002);
        node.feed(600000);
        node.feed(400000);
        int id = node.take(20);
        int poll = node.poll();
        is(0, node.answer(poll, node.sampled(poll, 0), true));
        is(1, node.answer(poll, node.sampled(poll, 1), true));
        is(3, node.look(id, 0));
        is(400000, node.unspent(id, 1));
        is(true, node.begin(0, 1, 3));
        node.votes(0, 2, 2);
        is(true, node.round(0));
        is(2, node.state(0, 0));
        is(1, node.state(0, 2));
    }

    private static void is(Object want, Object got) {
        CHECKS.same("a call of the example", want, got);
    }

    private static List<String> ownExample() throws IOException {
        List<String> source = Files.readAllLines(Path.of("src/test/java/ReadmeTest.java"));
        int from = source.indexOf("    private static void example() {") + 1;
        List<String> body = new ArrayList<String>();
        for (int i = from; !source.get(i).equals("    }"); i++) {
            body.add(source.get(i).trim());
        }
        return body;
    }

    private static List<String> exampleOf(List<String> readme) {
        List<String> statements = new ArrayList<String>();
        for (int i = readme.indexOf("```java") + 1; !readme.get(i).equals("```"); i++) {
            Matcher line = STATEMENT.matcher(readme.get(i));
            if (line.matches()) {
                Matcher told = VALUE.matcher(line.group(2) == null ? "" : line.group(2));
                statements.add(told.matches()
                        ? "is(" + told.group(1) + ", " + line.group(1) + ");"
                        : line.group(1) + ";");
            }
        }
        return statements;
    }

    /** A method as its name, how many parameters it has, and what it throws. */
    private static List<String> face() {
        List<String> found = new ArrayList<String>();
        for (Method method : SnowNode.class.getDeclaredMethods()) {
            if (Modifier.isPublic(method.getModifiers())) {
                StringBuilder text = new StringBuilder(method.getName() + "/" + method.getParameterCount());
                for (Class<?> thrown : method.getExceptionTypes()) {
                    text.append(" ").append(thrown.getSimpleName());
                }
                found.add(text.toString());
            }
        }
        found.sort(null);
        return found;
    }

    private static List<String> methodsOf(List<String> readme) {
        List<String> found = new ArrayList<String>();
        for (String line : readme) {
            Matcher row = ROW.matcher(line);
            if (row.matches()) {
                String parameters = row.group(2);
                int count = parameters.isEmpty() ? 0 : parameters.split(",").length;
                StringBuilder text = new StringBuilder(row.group(1) + "/" + count);
                Matcher thrown = EXCEPTION.matcher(row.group(4));
                while (thrown.find()) {
                    text.append(" ").append(thrown.group(1));
                }
                found.add(text.toString());
            }
        }
        found.sort(null);
        return found;
    }

    private static void testsAreTold(String readme) {
        for (String told : new String[] {
            "new SnowNode(seed, k, alpha, betaOne, betaTwo)", "512 calls", ".ci/run",
            "java -cp build/one Promise06Test", "java -cp build/one SnowNodeRuns",
        }) {
            CHECKS.same("README.md has: " + told, true, readme.contains(told));
        }
    }
}
