import java.io.IOException;
import java.lang.reflect.InvocationTargetException;
import java.lang.reflect.Method;
import java.nio.file.Files;
import java.nio.file.Path;
import java.util.regex.Matcher;
import java.util.regex.Pattern;

/** The examples of README.md, from its first one to its last on one object: each answers what stands behind it. */
public final class ReadmeTest {
    private static final Pattern BLOCK = Pattern.compile("```java\n(.*?)```", Pattern.DOTALL);
    private static final Pattern LOAD = Pattern.compile("load\\(x, \"(.*)\"\\); +// (\\S+).*");
    private static final Pattern CALL = Pattern.compile("x\\.(\\w+)\\((.*)\\); +// (\\S+).*");

    private static HoleWhistle x = new HoleWhistle();
    private static int calls = 0;

    public static void main(String[] args) throws Exception {
        Matcher block = BLOCK.matcher(Files.readString(Path.of("README.md")));
        while (block.find()) {
            if (block.group(1).startsWith("static int load")) continue;
            for (String line : block.group(1).split("\n")) run(line);
        }
        Checks.part("README.md");
        Checks.due(true, calls > 40);
        tests();
        Checks.end("ReadmeTest");
    }

    private static void run(String line) throws Exception {
        Checks.part("README.md: " + line);
        Matcher load = LOAD.matcher(line);
        Matcher call = CALL.matcher(line);
        calls++;
        if (line.equals("HoleWhistle x = new HoleWhistle();")) x = new HoleWhistle();
        else if (load.matches()) Checks.due(load.group(2), "" + load(load.group(1)));
        else if (call.matches()) Checks.due(call.group(3), "" + answer(call.group(1), call.group(2)));
        else Checks.due("an example", "no example");
    }

    /** As README.md has it: one character a call. */
    private static int load(String text) {
        for (char c : text.toCharArray()) x.append(c);
        return x.load();
    }

    private static Object answer(String name, String arguments) throws Exception {
        String[] numbers = arguments.isEmpty() ? new String[0] : arguments.split(", ");
        for (Method m : HoleWhistle.class.getMethods()) {
            if (!m.getName().equals(name) || m.getParameterCount() != numbers.length) continue;
            Object[] given = new Object[numbers.length];
            for (int k = 0; k < given.length; k++) given[k] = Integer.parseInt(numbers[k]);
            try {
                return m.invoke(x, given);
            } catch (InvocationTargetException e) {
                return e.getCause().getClass().getName();
            }
        }
        return "no method";
    }

    /** README.md names each test. */
    private static void tests() throws IOException {
        String text = Files.readString(Path.of("README.md"));
        try (var files = Files.list(Path.of("src/test/java"))) {
            for (Path file : files.filter(f -> f.toString().endsWith("Test.java")).sorted().toList()) {
                String name = file.getFileName().toString().replace(".java", "");
                Checks.due(name + " true", name + " " + text.contains("`" + name + "`"));
            }
        }
    }
}
