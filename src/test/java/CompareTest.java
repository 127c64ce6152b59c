import java.lang.reflect.InvocationTargetException;
import java.lang.reflect.Method;
import java.lang.reflect.Modifier;
import java.nio.charset.StandardCharsets;
import java.util.ArrayList;
import java.util.Comparator;
import java.util.List;
import java.util.Random;

/** Runs of up to 512 calls, the same ones on a HoleWhistle and on the Model: each answer must be alike. */
public final class CompareTest {
    private static final Method[] FACE = face();
    private static final String[] CALM = {"setHole", "setLimits", "setTolerance", "setCosts", "addNote", "setNote",
        "dropNote", "repeat", "higher", "cover", "blow", "step", "rewind", "undo"};

    private final Random random;
    private final HoleWhistle whistle = new HoleWhistle();
    private final Model model = new Model();
    private final List<String> told = new ArrayList<>();
    private int calls = 0;

    private CompareTest(long seed) { random = new Random(seed); }

    private static Method[] face() {
        List<Method> found = new ArrayList<>();
        for (Method m : HoleWhistle.class.getDeclaredMethods()) if (Modifier.isPublic(m.getModifiers())) found.add(m);
        found.sort(Comparator.comparing(Method::getName));
        return found.toArray(new Method[0]);
    }

    private static Object answer(Object on, Method m, Object[] args) throws Exception {
        try {
            return on.getClass().getMethod(m.getName(), m.getParameterTypes()).invoke(on, args);
        } catch (InvocationTargetException e) {
            return "throws " + e.getCause().getClass().getName();
        }
    }

    private Object call(Method m, Object... args) throws Exception {
        calls++;
        Object got = answer(whistle, m, args);
        Object due = answer(model, m, args);
        told.add(m.getName() + List.of(args) + " -> " + got);
        if (!got.equals(due)) {
            for (String t : told) System.out.println(t);
            throw new IllegalStateException("due is " + due);
        }
        return got;
    }

    private static Method method(String name) {
        for (Method m : FACE) if (m.getName().equals(name)) return m;
        throw new IllegalStateException(name);
    }

    private void loadText(String text) throws Exception {
        byte[] bytes = text.getBytes(StandardCharsets.ISO_8859_1);
        for (int k = 0; k < bytes.length; ) {
            long number = 0;
            int zeros = random.nextInt(4) == 0 ? random.nextInt(8) : 0;
            for (int j = 0; j < 8; j++) {
                int b = zeros > 0 && random.nextBoolean() || k >= bytes.length ? 0 : bytes[k++] & 255;
                number = number << 8 | b;
            }
            call(method("append"), number);
        }
        call(method("load"));
        call(method("loadError"));
        call(method("loadStatement"));
    }

    private int pick(int... of) { return of[random.nextInt(of.length)]; }

    private int between(int a, int b) { return a + random.nextInt(b - a + 1); }

    private String description() {
        StringBuilder t = new StringBuilder();
        int length = random.nextInt(4) == 0 ? between(200, 600) : 300;
        // Open, such a whistle's first hole is an octave above: tones that are played softly and strongly.
        boolean octave = random.nextInt(8) == 0;
        t.append("whistle ");
        if (octave) t.append("300 12 40");
        else t.append(length).append(' ').append(between(5, 20)).append(' ').append(pick(5, 30, 40, 49, 49));
        int holes = random.nextInt(12) == 0 ? 7 : between(0, 5);
        if (random.nextInt(25) == 0) holes = 8;
        List<String> statements = new ArrayList<>();
        int place = 0;
        int style = octave ? 4 : random.nextInt(5);
        int silent = style == 4 ? between(1, 4) : 0;
        holes = octave ? silent + 1 : Math.max(holes, silent);
        if (octave) length = 300;
        for (int k = 0; k < holes; k++) {
            if (style == 0 || k >= holes - silent) place = length - 9 + k;
            else if (style == 1) place += between(1, 2 * length / (holes + 1));
            else place = length / 3 + k * length * 2 / 3 / (holes + 1) + between(0, 8);
            if (random.nextInt(100) > 0) place = Math.min(place, length - 1);
            if (octave && k == 0) place = 138;
            statements.add("hole " + place + " " + (octave && k == 0 ? 15 : style == 0 || k >= holes - silent ? between(2, 4) : between(2, 15)));
        }
        if (silent > 0) statements.add("limit 2 3");
        if (random.nextInt(2) == 0) statements.add(between(0, statements.size()), "limit " + between(0, 2) + " " + between(0, 3));
        if (random.nextInt(2) == 0) statements.add(between(0, statements.size()), "cost " + between(1, 9) + " " + between(1, 9) + " " + between(0, 9));
        playable = playableTones(t + (statements.isEmpty() ? "" : ";") + String.join(";", statements));
        if (random.nextInt(8) > 0) statements.add(between(0, statements.size()), "tune " + parts(0));
        if (random.nextInt(30) == 0) statements.add("tune 3");
        for (String s : statements) t.append(random.nextInt(9) == 0 ? " ; " : ";").append(s);
        return t.toString();
    }

    private List<Integer> playable = List.of();

    private static List<Integer> playableTones(String text) {
        Model probe = new Model();
        for (char c : text.toCharArray()) probe.append(c);
        probe.load();
        List<Integer> tones = new ArrayList<>();
        for (int tone = 0; tone < 25; tone++) if (probe.plays(tone) > 0) tones.add(tone);
        return tones;
    }

    private String parts(int depth) {
        StringBuilder t = new StringBuilder();
        int count = between(1, depth == 0 ? 12 : 4);
        boolean close = random.nextBoolean();
        for (int k = 0; k < count; k++) {
            int way = random.nextInt(12);
            if (way == 0 && depth < 5) t.append('(').append(parts(depth + 1)).append(')').append(between(1, 4));
            else if (way == 1) t.append("rest");
            else if (way == 2 && random.nextInt(3) == 0 || playable.isEmpty()) t.append(between(0, 24));
            else t.append(playable.get(random.nextInt(close ? Math.min(4, playable.size()) : playable.size())));
            t.append(' ');
        }
        return t.toString().trim();
    }

    private String broken(String text) {
        StringBuilder t = new StringBuilder(text);
        int times = between(1, 3);
        for (int k = 0; k < times && t.length() > 0; k++) {
            int at = random.nextInt(t.length());
            String bits = " ;()0123456789resthole\u00e9A-";
            switch (random.nextInt(5)) {
                case 0 -> t.deleteCharAt(at);
                case 1 -> t.setCharAt(at, bits.charAt(random.nextInt(bits.length())));
                case 2 -> t.insert(at, bits.charAt(random.nextInt(bits.length())));
                case 3 -> t.setLength(at);
                default -> t.insert(at, new String[] {"rest", "hole 9 9", "tune 1", "999999999999", "((((((", ";", "00"}[random.nextInt(7)]);
            }
        }
        return t.length() > 400 ? t.substring(0, 400) : t.toString();
    }

    private int near(int count) {
        if (random.nextInt(60) == 0) return pick(Integer.MIN_VALUE, Integer.MAX_VALUE, -1, count, count + 1);
        return count <= 0 ? pick(-1, 0, 1) : random.nextInt(25) == 0 ? count : random.nextInt(count);
    }

    private Object[] argumentsFor(Method m) {
        int plays = model.size(11), holes = model.size(3), notes = model.size(9);
        return switch (m.getName()) {
            case "append" -> new Object[] {random.nextInt(4) == 0 ? 0L : random.nextLong()};
            case "size" -> new Object[] {near(16)};
            case "hole", "cover" -> new Object[] {near(holes), near(3)};
            case "covered" -> new Object[] {near(plays), near(holes)};
            case "sounding", "cents", "tone", "off", "halves", "crosses", "isEasy", "writePlay" -> new Object[] {near(plays)};
            case "plays", "truest", "nearest", "fingering" -> new Object[] {near(25)};
            case "playOf" -> new Object[] {near(25), near(4)};
            case "change", "fingers" -> new Object[] {near(plays), near(plays)};
            case "note", "wayPlay", "wayChange", "dropNote", "rewind" -> new Object[] {near(notes)};
            case "moved" -> new Object[] {near(holes)};
            case "costBy", "higher" -> new Object[] {random.nextInt(20) == 0 ? pick(-13, 13) : random.nextBoolean() ? between(-2, 2) : between(-12, 12)};
            case "costWith", "setLimits" -> new Object[] {near(3), near(4)};
            case "setHole" -> setHoleArguments(holes);
            case "setTolerance" -> new Object[] {between(4, 50)};
            case "setCosts" -> new Object[] {between(1, 9) - oddly(), between(1, 9) + oddly(), between(0, 9) - oddly()};
            case "addNote" -> new Object[] {likelyTone()};
            case "setNote" -> new Object[] {near(notes), likelyTone()};
            case "repeat" -> new Object[] {near(notes), near(notes)};
            case "blow" -> new Object[] {random.nextBoolean()};
            case "outputByte" -> new Object[] {near(12)};
            case "saveSnapshot", "restoreSnapshot" -> new Object[] {near(2)};
            default -> new Object[0];
        };
    }

    private int oddly() { return random.nextInt(15) == 0 ? 9 : 0; }

    private Object[] setHoleArguments(int holes) {
        int hole = near(holes);
        int place = between(0, model.size(0));
        if (hole >= 0 && hole < holes && random.nextInt(3) > 0) place = model.hole(hole, 0) + between(-12, 12);
        return new Object[] {hole, place, random.nextInt(12) == 0 ? pick(1, 16) : between(2, 15)};
    }

    private int likelyTone() {
        if (random.nextInt(40) == 0) return pick(-2, 25);
        if (random.nextInt(9) == 0) return -1;
        int tone = random.nextInt(25);
        for (int k = 0; k < 25 && random.nextInt(12) > 0; k++) {
            if (model.plays((tone + k) % 25) > 0) return (tone + k) % 25;
        }
        return tone;
    }

    private void run(int length) throws Exception {
        boolean big = random.nextInt(8) == 0;
        loadText(description());
        while (calls < length - 60) {
            if (!big && random.nextInt(60) == 0 || random.nextInt(400) == 0) {
                String text = description();
                loadText(random.nextInt(3) == 0 ? broken(text) : text);
            }
            if (random.nextInt(3) == 0) repair();
            String name = random.nextInt(3) == 0 ? CALM[random.nextInt(CALM.length)] : FACE[random.nextInt(FACE.length)].getName();
            if (name.equals("append") && random.nextInt(10) > 0) continue;
            if (name.equals("load") || name.equals("dropNote") && random.nextInt(2) == 0) continue;
            Method m = method(name);
            call(m, argumentsFor(m));
        }
        whole();
    }

    /** Tunes that cannot be played tell little. */
    private void repair() throws Exception {
        int note = model.firstLacking();
        if (note >= 0) call(method("setNote"), note, likelyTone());
    }

    /** All that can be asked without an argument, and some more, as the end of a run. */
    private void whole() throws Exception {
        for (int what = 0; what < 16; what++) call(method("size"), what);
        int notes = model.size(9);
        for (int k = 0; k < Math.min(notes, 20); k++) call(method("wayPlay"), k);
        for (String name : new String[] {"cost", "idle", "hardest", "lacking", "level", "bestBy", "meanCost", "writeTune", "load"}) {
            call(method(name));
        }
    }

    public static void main(String[] args) throws Exception {
        int runs = args.length > 0 ? Integer.parseInt(args[0]) : 400;
        long from = args.length > 1 ? Long.parseLong(args[1]) : 1;
        int texts = 0;
        for (int k = 0; k < runs; k++) {
            try {
                new CompareTest(from + k).run(512);
            } catch (IllegalStateException e) {
                System.out.println("seed " + (from + k) + ": " + e.getMessage());
                System.out.println("0 passed, 1 failed");
                System.exit(1);
            }
            CompareTest t = new CompareTest(-from - k);
            for (int j = 0; j < 6; j++) {
                String text = t.description();
                t.loadText(t.random.nextInt(4) == 0 ? text : t.broken(text));
                texts++;
            }
        }
        System.out.println("CompareTest: " + runs + " runs and " + texts + " texts alike");
    }
}
