import java.io.IOException;
import java.nio.file.Files;
import java.nio.file.Path;

/** What the tests of boundary cases share: the document's sentences, word for word, and pictures of a whole object. */
final class Edges {
    interface Asking {
        int of(int number);
    }

    interface Doing {
        Object on(HoleWhistle x);
    }

    private static final String[] PARTS = parts();

    private Edges() { }

    /** What stands ahead of promise 1, then the promises. */
    static String[] parts() {
        try {
            return Files.readString(Path.of("../shared/DOC.md")).replaceAll("\\s+", " ").split("## Promise \\d+: ");
        } catch (IOException e) {
            throw new IllegalStateException(e);
        }
    }

    /** The answers behind it are asked by this sentence: it must stand in this promise (0: in the terms ahead of all). */
    static void says(int promise, String sentence) {
        Checks.part((promise == 0 ? "terms" : "promise " + promise) + ": " + sentence);
        Checks.due(true, PARTS[promise].contains(sentence));
    }

    /** What load() answers on a new object, with the error's kind and its statement. */
    static String read(String text) {
        HoleWhistle x = new HoleWhistle();
        return Checks.load(x, text) + " " + x.loadError() + " " + x.loadStatement();
    }

    /** What can be seen of an object without changing it, in so few calls that four pictures stay far below 512. */
    static String picture(HoleWhistle x) {
        StringBuilder b = new StringBuilder(Checks.sizes(x)).append(" tune ").append(Checks.tune(x)).append(" holes");
        for (int k = 0; k < x.size(3); k++) {
            b.append(' ').append(x.hole(k, 0)).append(' ').append(x.hole(k, 1)).append(' ').append(x.hole(k, 2));
        }
        b.append(" output ").append(Checks.output(x)).append(" load ").append(x.loadError()).append(' ').append(x.loadStatement());
        b.append(" asked ").append(x.lacking()).append(' ').append(x.firstLacking()).append(' ').append(x.level());
        b.append(' ').append(x.cost()).append(' ').append(x.hardest()).append(' ').append(x.idle()).append(' ').append(x.cents(0));
        return b.toString();
    }

    /** The cost, then each note's play and what the change to it costs. */
    static String way(HoleWhistle x) {
        StringBuilder b = new StringBuilder().append(x.cost()).append(':');
        for (int k = 0; k < x.size(9); k++) b.append(' ').append(x.wayPlay(k)).append('/').append(x.wayChange(k));
        return b.toString();
    }

    /** The call answers so, and nothing is changed behind it. */
    static void idleCall(HoleWhistle x, Object want, Doing call) {
        String before = picture(x);
        Object got;
        try {
            got = call.on(x);
        } catch (RuntimeException e) {
            got = e.getClass();
        }
        Checks.due(want, got);
        Checks.due(before, picture(x));
    }

    /** Asks for each number; what throws is told by the first letters of its exception. */
    static String each(Asking asking, int... numbers) {
        StringBuilder b = new StringBuilder();
        for (int n : numbers) {
            b.append(b.length() == 0 ? "" : " ");
            try {
                b.append(asking.of(n));
            } catch (RuntimeException e) {
                b.append(e.getClass() == IndexOutOfBoundsException.class ? "index"
                    : e.getClass() == IllegalArgumentException.class ? "argument" : e.getClass().getName());
            }
        }
        return b.toString();
    }
}
