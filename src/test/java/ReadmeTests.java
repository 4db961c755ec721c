import java.io.IOException;
import java.lang.reflect.Method;
import java.lang.reflect.Modifier;
import java.nio.charset.StandardCharsets;
import java.nio.file.Files;
import java.nio.file.Path;
import java.util.ArrayList;
import java.util.List;
import java.util.regex.Matcher;
import java.util.regex.Pattern;
import java.util.stream.Stream;

/** What README.md shows is what the class answers, and it names each call and each test. */
public final class ReadmeTests {
    private static final Check c = new Check();
    private static final Pattern CALL =
            Pattern.compile("x\\.([a-z]+)\\(([^)]*)\\); +// (?:throws ([A-Za-z]+)|(-?[0-9]+): .+|\"(.+)\")");

    private static MoodBelfries x;

    public static void main(String[] args) throws IOException {
        c.part("README.md");
        String page = Files.readString(Path.of("README.md"), StandardCharsets.UTF_8);
        List<String> blocks = javaBlocks(page);
        c.due("blocks of Java", 2, blocks::size);
        show(blocks.get(0));
        String helper = Files.readString(Path.of("src/test/java/Check.java"), StandardCharsets.UTF_8);
        for (String method : blocks.get(1).split("\n\n")) {
            holds(helper.replace("\n    ", "\n"), method.strip(), "the tests' own helper");
        }
        namesAll(page);
        c.end();
    }

    private static List<String> javaBlocks(String page) {
        List<String> blocks = new ArrayList<>();
        Matcher m = Pattern.compile("```java\n(.*?)```", Pattern.DOTALL).matcher(page);
        while (m.find()) {
            blocks.add(m.group(1));
        }
        return blocks;
    }

    /** Each line must be one that can be looked at, so that nothing is shown unseen. */
    private static void show(String block) {
        for (String line : block.split("\n")) {
            Matcher m = CALL.matcher(line);
            if (line.equals("MoodBelfries x = new MoodBelfries();")) {
                x = new MoodBelfries();
            } else if (!line.isEmpty()) {
                c.due("a call and its answer: " + line, 1, () -> m.matches() ? 1 : 0);
                call(line, m);
            }
        }
    }

    private static void call(String line, Matcher m) {
        String[] told = m.group(2).isEmpty() ? new String[0] : m.group(2).split(", ");
        Object[] arguments = new Object[told.length];
        for (int i = 0; i < told.length; i++) {
            arguments[i] = Integer.decode(told[i]);
        }
        if (m.group(5) == null) {
            c.due(line, due(m), () -> Check.call(x, m.group(1), arguments));
            return;
        }
        for (int i = 0; i < told.length; i++) {
            int number = Check.number(m.group(5), 4 * i);
            Object argument = arguments[i];
            c.due(line + " number " + i, number, () -> (Integer) argument);
        }
        Check.call(x, m.group(1), arguments);
    }

    private static long due(Matcher m) {
        if (m.group(3) == null) {
            return Long.parseLong(m.group(4));
        }
        return m.group(3).equals("NoSuchElementException") ? Check.NO_SUCH : Check.WRONG;
    }

    private static void namesAll(String page) throws IOException {
        for (Method m : MoodBelfries.class.getDeclaredMethods()) {
            if (Modifier.isPublic(m.getModifiers())) {
                holds(page.substring(page.indexOf("### The calls")), "`" + m.getName() + "`", "the list of calls");
            }
        }
        try (Stream<Path> files = Files.list(Path.of("src/test/java"))) {
            for (Path file : files.toList()) {
                String name = file.getFileName().toString().replace(".java", "");
                holds(page.substring(page.indexOf("## Tests")), "`" + name + "`", "the list of tests");
            }
        }
    }

    private static void holds(String text, String part, String what) {
        c.due(what + " holds " + part, 1, () -> text.contains(part) ? 1 : 0);
    }
}
