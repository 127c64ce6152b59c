import java.nio.charset.StandardCharsets;

/** What the tests share: counting what is not as it is due, and loading texts. */
final class Checks {
    interface Call {
        Object run();
    }

    private static int done = 0;
    private static int wrong = 0;
    private static String part = "";

    private Checks() { }

    static void part(String name) { part = name; }

    static void due(Object want, Object got) {
        done++;
        if (want.equals(got)) return;
        wrong++;
        StackTraceElement[] trace = new Throwable().getStackTrace();
        String line = "";
        for (StackTraceElement t : trace) if (!t.getMethodName().matches("due.*|no.*|error") && line.isEmpty()) line = " line " + t.getLineNumber();
        System.out.println(part + line + ": due is " + want + ", answered " + got);
    }

    /** The class must be exactly this one: an exception of the machine's own is another one. */
    private static void dueThrow(Class<?> kind, Call call) {
        Object got;
        try {
            got = call.run();
        } catch (RuntimeException e) {
            got = e.getClass();
        }
        due(kind, got);
    }

    static void noIndex(Call... calls) {
        for (Call c : calls) dueThrow(IndexOutOfBoundsException.class, c);
    }

    static void noArgument(Call... calls) {
        for (Call c : calls) dueThrow(IllegalArgumentException.class, c);
    }

    static int feed(HoleWhistle x, String text) {
        byte[] bytes = text.getBytes(StandardCharsets.ISO_8859_1);
        int length = 0;
        for (int k = 0; k < bytes.length; k += 8) {
            long number = 0;
            for (int j = k; j < Math.min(k + 8, bytes.length); j++) number = number << 8 | bytes[j] & 255;
            length = x.append(number);
        }
        return length;
    }

    static int load(HoleWhistle x, String text) {
        feed(x, text);
        return x.load();
    }

    static HoleWhistle whistle(String text) {
        HoleWhistle x = new HoleWhistle();
        int notes = load(x, text);
        if (notes < 0) throw new IllegalStateException("the test's own text has an error: " + text + " " + notes);
        return x;
    }

    static String output(HoleWhistle x) {
        StringBuilder b = new StringBuilder();
        for (int k = 0; x.outputByte(k) != HoleWhistle.NONE; k++) b.append((char) x.outputByte(k));
        return b.toString();
    }

    static String tune(HoleWhistle x) {
        StringBuilder b = new StringBuilder();
        for (int k = 0; k < x.size(9); k++) b.append(k == 0 ? "" : " ").append(x.note(k) == -1 ? "r" : "" + x.note(k));
        return b.toString();
    }

    static String sizes(HoleWhistle x) {
        StringBuilder b = new StringBuilder();
        for (int k = 0; k < 16; k++) b.append(k == 0 ? "" : " ").append(x.size(k));
        return b.toString();
    }

    static void end(String name) {
        System.out.println(name + ": " + done + " answers, " + wrong + " wrong");
        if (wrong > 0) System.exit(1);
    }
}
