import java.lang.management.ManagementFactory;
import java.lang.reflect.Constructor;
import java.lang.reflect.Field;
import java.lang.reflect.Method;
import java.lang.reflect.Modifier;
import java.nio.charset.StandardCharsets;
import java.nio.file.Files;
import java.nio.file.Path;
import java.util.ArrayList;
import java.util.Arrays;
import java.util.Collections;
import java.util.List;
import java.util.Map;
import java.util.TreeMap;
import java.util.regex.Matcher;
import java.util.regex.Pattern;

/** The public face as the document lists it, the rules of the language as far as a scan sees them, and the room. */
public final class FaceTest {
    private static final Path SOURCE = Path.of("src/main/java/HoleWhistle.java");
    private static final Path DOCUMENT = Path.of("../shared/DOC.md");

    public static void main(String[] args) throws Exception {
        face();
        kinds();
        words();
        indexes();
        lengths();
        depths();
        room();
        Checks.end("FaceTest");
    }

    private static void face() throws Exception {
        Checks.part("the public face");
        String text = Files.readString(DOCUMENT);
        String block = text.substring(text.indexOf("```java") + 7, text.indexOf("```", text.indexOf("```java") + 7));
        List<String> due = new ArrayList<>();
        for (String line : block.split("\n")) {
            if (line.startsWith("    public")) due.add(line.strip().replaceAll("(int|long|boolean|double|float) \\w+(?=[,)])", "$1"));
        }
        List<String> got = new ArrayList<>();
        for (Field f : HoleWhistle.class.getDeclaredFields()) {
            if (!Modifier.isPrivate(f.getModifiers())) got.add(Modifier.toString(f.getModifiers()) + " int " + f.getName() + " = " + f.getInt(null) + ";");
        }
        for (Constructor<?> c : HoleWhistle.class.getDeclaredConstructors()) got.add(Modifier.toString(c.getModifiers()) + " HoleWhistle();");
        for (Method m : HoleWhistle.class.getDeclaredMethods()) if (!Modifier.isPrivate(m.getModifiers())) got.add(told(m));
        Collections.sort(due);
        Collections.sort(got);
        Checks.due(String.join("\n", due), String.join("\n", got));
        Checks.due("public final", Modifier.toString(HoleWhistle.class.getModifiers()));
        for (Class<?> c : HoleWhistle.class.getDeclaredClasses()) {
            Checks.due(true, Modifier.isPrivate(c.getModifiers()) && Modifier.isStatic(c.getModifiers()));
        }
    }

    private static String told(Method m) {
        String types = String.join(", ", Arrays.stream(m.getParameterTypes()).map(Class::getSimpleName).toList());
        String thrown = String.join(", ", Arrays.stream(m.getExceptionTypes()).map(Class::getSimpleName).toList());
        return "public " + m.getReturnType() + " " + m.getName() + "(" + types + ")" + (thrown.isEmpty() ? "" : " throws " + thrown) + ";";
    }

    private static void kinds() {
        Checks.part("rules 1, 5 and 11");
        List<Class<?>> all = new ArrayList<>(List.of(HoleWhistle.class.getDeclaredClasses()));
        List<String> publics = new ArrayList<>();
        for (Method m : HoleWhistle.class.getDeclaredMethods()) if (Modifier.isPublic(m.getModifiers())) publics.add(m.getName());
        all.add(HoleWhistle.class);
        Checks.due(true, all.size() <= 12);
        for (Class<?> c : all) {
            int fields = 0;
            for (Field f : c.getDeclaredFields()) {
                if (!Modifier.isStatic(f.getModifiers())) fields++;
                else Checks.due(true, Modifier.isFinal(f.getModifiers()));
            }
            Checks.due(true, fields <= 20);
            for (Method m : c.getDeclaredMethods()) {
                Checks.due(true, m.getParameterCount() <= 7);
                if (!Modifier.isPublic(m.getModifiers())) Checks.due(m.getName() + " false", m.getName() + " " + publics.contains(m.getName()));
            }
        }
    }

    private static String code() throws Exception {
        String source = Files.readString(SOURCE, StandardCharsets.UTF_8);
        return source.replaceAll("(?s)/\\*.*?\\*/", "").replaceAll("//[^\n]*", "");
    }

    private static void words() throws Exception {
        Checks.part("rules 2 to 6 and 13");
        String code = code();
        String[] ruled = {"\\bimport\\b", "\\bpackage\\b", "\\btry\\b", "\\bcatch\\b", "\\bfinally\\b", "->", "::", "\\bassert\\b",
            "\\bsynchronized\\b", "Exact\\b", "\\bvar\\b", "getClass", "hashCode", "toString", "\\bextends\\b", "\\bObject\\b",
            "System\\.", "Thread", "Random", "\"\\s*\\+", "\\+\\s*\"", "[^\\x00-\\x7f]"};
        for (String r : ruled) Checks.due(r + " false", r + " " + Pattern.compile(r).matcher(code).find());
        Matcher thrown = Pattern.compile("throw\\b[^;]*;").matcher(code.replaceAll("\\bthrows\\b", ""));
        while (thrown.find()) {
            Checks.due(true, thrown.group().matches("throw new (IllegalArgumentException|IndexOutOfBoundsException)\\(\\);"));
        }
        Matcher library = Pattern.compile("\\b(Math|Integer|Long|Arrays|List)\\.(\\w+)").matcher(code);
        while (library.find()) Checks.due(true, List.of("Math.max", "Math.min", "Math.abs", "Integer.bitCount").contains(library.group()));
    }

    /** Arrays are indexed in the guarded functions and the constructor's loops alone, divided by what is written out. */
    private static void indexes() throws Exception {
        Checks.part("rule 7");
        List<String> allowed = List.of("row[index]", "past[k]", "saved[k]", "text[pos]");
        Matcher index = Pattern.compile("\\b\\w+\\[[^\\]]+\\]").matcher(code().replaceAll("new \\w+\\[[^\\]]+\\]", ""));
        while (index.find()) Checks.due(index.group() + " true", index.group() + " " + allowed.contains(index.group()));
        Matcher divide = Pattern.compile("[/%] *(\\w+)").matcher(code());
        while (divide.find()) {
            boolean fine = divide.group(1).matches("[1-9]\\d*|MOST_ACTIONS|divisor|float|double") || divide.group().contains("(");
            Checks.due(divide.group() + " true", divide.group() + " " + fine);
        }
    }

    private static void lengths() throws Exception {
        Checks.part("rule 11");
        int begun = -1;
        String[] lines = Files.readString(SOURCE).split("\n");
        for (int k = 0; k < lines.length; k++) {
            if (lines[k].matches("(    |        )(public|private) .*\\) ?(throws .*)?\\{")) begun = k;
            if (begun >= 0 && lines[k].matches("(    |        )\\}")) {
                Checks.due(true, k - begun <= 60);
                begun = -1;
            }
        }
    }

    /** The bodies of all methods by their names, which no two of them share: so a name tells what is called. */
    private static Map<String, String> bodies() throws Exception {
        Map<String, String> bodies = new TreeMap<>();
        Pattern head = Pattern.compile("( {4}| {8})(?:public|private) (?:static )?[\\w\\[\\]]+ (\\w+)\\(.*\\{");
        String[] lines = code().split("\n");
        for (int k = 0; k < lines.length; k++) {
            Matcher m = head.matcher(lines[k]);
            if (!m.matches()) continue;
            StringBuilder body = new StringBuilder();
            for (int j = k + 1; !lines[j].equals(m.group(1) + "}"); j++) body.append(lines[j]).append('\n');
            Checks.due(m.group(2) + " null", m.group(2) + " " + bodies.put(m.group(2), body.toString()));
        }
        return bodies;
    }

    /** How deep the calls of a method go, itself with them; more than ahead is deeper than any way without recursion. */
    private static int depth(String name, Map<String, String> bodies, Map<String, Integer> known, int ahead) {
        if (known.containsKey(name)) return known.get(name);
        if (ahead > bodies.size()) return ahead;
        int deepest = 0;
        Matcher call = Pattern.compile("\\b(\\w+)\\(").matcher(bodies.get(name));
        while (call.find()) {
            if (bodies.containsKey(call.group(1))) deepest = Math.max(deepest, depth(call.group(1), bodies, known, ahead + 1));
        }
        known.put(name, deepest + 1);
        return deepest + 1;
    }

    private static void depths() throws Exception {
        Checks.part("rule 11, calls at most eight deep");
        Map<String, String> bodies = bodies();
        Checks.due(true, bodies.size() > 100);
        for (String name : bodies.keySet()) {
            int depth = depth(name, bodies, new TreeMap<>(), 0);
            Checks.due(name + " true", name + " " + (depth <= 8));
        }
    }

    private static long allocated() {
        return ((com.sun.management.ThreadMXBean) ManagementFactory.getThreadMXBean()).getCurrentThreadAllocatedBytes();
    }

    /** The dearest runs stay far under 7.3 million elements of four bytes. */
    private static void room() {
        Checks.part("rule 12");
        long before = allocated();
        HoleWhistle x = new HoleWhistle();
        Checks.due(true, allocated() - before < 20000);
        for (int round = 0; round < 12; round++) {
            StringBuilder text = new StringBuilder("whistle 300 12 49");
            for (int hole = 0; hole <= round % 7; hole++) text.append(";hole ").append(293 + hole).append(" 2");
            Checks.load(x, text + ";limit 2 3;cost 1 1 0;tune (0 0 0 0 12)" + (2 + round / 2));
            for (int k = 0; k < 20; k++) {
                x.setCosts(1 + k % 9, 2, 1);
                x.cost();
                x.bestBy();
                x.costWith(k % 3, k % 4);
                x.level();
                x.step();
                x.undo();
            }
        }
        long used = allocated() - before;
        System.out.println("room of a dear run: " + used + " bytes");
        Checks.due(true, used < 8000000);
    }
}
