/** The boundary cases that section 4 and promises 36 to 48 and 51 to 56 name, each with the nearest call on the other side. */
public final class ActionEdgesTest {
    private static final int MIN = Integer.MIN_VALUE;
    private static final int MAX = Integer.MAX_VALUE;
    private static final Class<?> INDEX = IndexOutOfBoundsException.class;
    private static final Class<?> ARGUMENT = IllegalArgumentException.class;
    private static final String W = "whistle 300 12 30";
    private static final String THREE = W + ";hole 140 8;hole 170 9;hole 200 10";
    private static final String SONG = THREE + ";tune 0 6 9 12 rest 12 0";
    private static final String FORTY = THREE + ";tune (0 6 9 12)9 0 6 9 12";

    public static void main(String[] args) {
        latestEight();
        changingNothing();
        costSoFar();
        refusedCalls();
        severalExceptions();
        constants();
        setHole();
        setLimits();
        setTolerance();
        setCosts();
        addNote();
        setNote();
        dropNote();
        repeat();
        higher();
        cover();
        blow();
        step();
        stepRefused();
        rewind();
        writePlay();
        writeTune();
        outputByte();
        undo();
        saveSnapshot();
        restoreSnapshot();
        manyCalls();
        Checks.end("ActionEdgesTest");
    }

    private static void due(Object want, Object got) { Checks.due(want, got); }

    private static HoleWhistle whistle(String text) { return Checks.whistle(text); }

    private static String sizes(HoleWhistle x, int... what) { return Edges.each(x::size, what); }

    // ---- section 4 ----

    private static void latestEight() {
        Edges.says(0, "The methods that are called actions can be taken back: the latest 8 of them that did not return FULL or WRONG.");
        for (int actions = 0; actions <= 10; actions++) {
            HoleWhistle x = whistle(THREE);
            for (int k = 0; k < actions; k++) x.addNote(k);
            due(Math.min(actions, 8), x.size(15));
            for (int k = Math.min(actions, 8) - 1; k >= 0; k--) due(k, x.undo());
            due(-1, x.undo());
            // With 8 all are taken back, with 9 the first one stays.
            due(actions <= 8 ? 0 : actions - 8, x.size(9));
        }
        HoleWhistle x = whistle(SONG);
        String before = Edges.picture(x);
        due("140 11 30 1 7 0 9 7", x.setHole(0, 150, 3) + " " + x.setLimits(2, 2) + " " + x.setTolerance(20) + " " + x.setCosts(4, 5, 6) + " "
            + x.addNote(3) + " " + x.setNote(0, -1) + " " + x.repeat(3, 3) + " " + x.higher(1));
        for (int k = 7; k >= 0; k--) due(k, x.undo());
        due(before, Edges.picture(x));
    }

    private static void changingNothing() {
        Edges.says(0, "An action counts also if it changes nothing.");
        HoleWhistle x = whistle(SONG);
        String before = Edges.picture(x);
        due("170 11 30 1 12 6 0 0", x.setHole(1, 170, 9) + " " + x.setLimits(1, 1) + " " + x.setTolerance(30) + " " + x.setCosts(1, 2, 1) + " "
            + x.setNote(3, 12) + " " + x.higher(0) + " " + x.cover(0, 0) + " " + x.blow(false));
        due(before.replace(" 0 0 0 0 tune", " 0 0 0 8 tune"), Edges.picture(x));
        for (int k = 7; k >= 0; k--) due(k, x.undo());
        due(before, Edges.picture(x));
        due("0 1", x.rewind(0) + " " + x.size(15));
        HoleWhistle rest = whistle(THREE + ";tune rest");
        due("0 0 2 -1", rest.step() + " " + rest.higher(12) + " " + rest.size(15) + " " + rest.note(0));
        HoleWhistle none = new HoleWhistle();
        due("0 0 0 3", none.higher(-12) + " " + none.rewind(0) + " " + none.blow(false) + " " + none.size(15));
        // What is no action does not count.
        none.writeTune();
        none.writePlay(0);
        none.append(1L);
        none.saveSnapshot(0);
        none.costBy(1);
        due(3, none.size(15));
    }

    private static void costSoFar() {
        Edges.says(0, "The actions that change the play at hand (cover, blow, step) add what the change costs to the cost of all changes so far, which is 0 at first.");
        HoleWhistle x = whistle(SONG + ";cost 3 5 7");
        due("0", sizes(x, 13));
        due("0 0", x.cover(0, 0) + " " + x.size(13));
        due("1 5", x.cover(0, 1) + " " + x.size(13));
        due("2 10", x.cover(0, 2) + " " + x.size(13));
        due("0 13", x.cover(0, 0) + " " + x.size(13));
        due("27 20", x.blow(true) + " " + x.size(13));
        due("27 20", x.blow(true) + " " + x.size(13));
        due("26 36", x.step() + " " + x.size(13));
        // What it cost is taken back with the action; other actions add nothing.
        x.undo();
        due("27 20", sizes(x, 12, 13));
        x.setCosts(1, 1, 0);
        x.rewind(3);
        x.setHole(0, 139, 8);
        due("27 20", sizes(x, 12, 13));
        due("0 20", x.blow(false) + " " + x.size(13));
    }

    private static HoleWhistle withEightActions(String text) {
        HoleWhistle x = whistle(text);
        x.setTolerance(29);
        x.setCosts(2, 3, 4);
        for (int k = 0; k < 3; k++) x.cover(k, 2);
        x.blow(true);
        x.rewind(x.size(9) > 1 ? 1 : 0);
        x.setLimits(0, 1);
        return x;
    }

    /** Behind eight actions the call is refused and changes nothing; all eight can still be taken back then. */
    private static void refuses(String text, Object want, Edges.Doing call) {
        String before = Edges.picture(whistle(text));
        HoleWhistle x = withEightActions(text);
        Edges.idleCall(x, want, call);
        for (int k = 7; k >= 0; k--) due(k, x.undo());
        due(-1, x.undo());
        due(before, Edges.picture(x));
    }

    private static void refusedCalls() {
        Edges.says(0, "A method that returns FULL or WRONG or throws an exception changes nothing, except as load() says.");
        refuses(FORTY, -2, x -> x.addNote(0));
        refuses(FORTY, -2, x -> x.addNote(-1));
        refuses(FORTY, -2, x -> x.repeat(0, 0));
        refuses(SONG, -3, x -> x.setHole(1, 140, 5));
        refuses(SONG, -3, x -> x.setHole(1, 200, 5));
        refuses(SONG, -3, x -> x.higher(-1));
        refuses(THREE + ";tune 12 0 rest 13 12", -3, HoleWhistle::step);
        refuses(THREE, -3, HoleWhistle::step);
        refuses(SONG, ARGUMENT, x -> x.addNote(25));
        refuses(SONG, INDEX, x -> x.setNote(7, 0));
        refuses(SONG, ARGUMENT, x -> x.setNote(0, 25));
        refuses(SONG, INDEX, x -> x.dropNote(7));
        refuses(SONG, ARGUMENT, x -> x.repeat(1, 0));
        refuses(SONG, INDEX, x -> x.repeat(7, 7));
        refuses(SONG, ARGUMENT, x -> x.higher(13));
        refuses(SONG, INDEX, x -> x.setHole(3, 5, 5));
        refuses(SONG, ARGUMENT, x -> x.setHole(0, 5, 16));
        refuses(SONG, ARGUMENT, x -> x.setLimits(2, 4));
        refuses(SONG, ARGUMENT, x -> x.setTolerance(50));
        refuses(SONG, ARGUMENT, x -> x.setCosts(9, 9, 10));
        refuses(SONG, INDEX, x -> x.cover(3, 0));
        refuses(SONG, ARGUMENT, x -> x.cover(0, 3));
        refuses(SONG, INDEX, x -> x.rewind(7));
        refuses(SONG, INDEX, x -> x.writePlay(54));
        refuses(SONG, ARGUMENT, x -> x.saveSnapshot(2));
        refuses(SONG, ARGUMENT, x -> x.restoreSnapshot(2));
        refuses(SONG, -1, x -> x.restoreSnapshot(0));
        // What is not refused is done, and the first of nine actions cannot be taken back then.
        HoleWhistle x = withEightActions(FORTY);
        due(39, x.dropNote(39));
        for (int k = 7; k >= 0; k--) due(k, x.undo());
        due(-1, x.undo());
        due("29", sizes(x, 2));
    }

    private static void severalExceptions() {
        Edges.says(0, "If several exceptions apply, the one that is named first is thrown; exceptions come before errors.");
        HoleWhistle x = whistle(FORTY);
        Checks.noIndex(() -> x.hole(3, 3), () -> x.hole(-1, -1), () -> x.setHole(3, 0, 0), () -> x.setHole(-1, 300, 16));
        Checks.noIndex(() -> x.setNote(40, 25), () -> x.setNote(-1, -2), () -> x.cover(3, 3), () -> x.cover(-1, -1));
        Checks.noIndex(() -> x.repeat(40, 0), () -> x.repeat(40, 39), () -> x.repeat(0, -1), () -> x.repeat(-1, -2), () -> x.repeat(MAX, MIN));
        // Beside them: with a hole or note that there is.
        Checks.noArgument(() -> x.hole(2, 3), () -> x.hole(0, -1), () -> x.setHole(2, 0, 0), () -> x.setHole(0, 300, 16));
        Checks.noArgument(() -> x.setNote(39, 25), () -> x.setNote(0, -2), () -> x.cover(2, 3), () -> x.cover(0, -1));
        // Ahead of FULL and WRONG.
        Checks.noArgument(() -> x.addNote(25), () -> x.addNote(-2), () -> x.repeat(39, 38), () -> x.higher(-13));
        Checks.noArgument(() -> x.setHole(1, 140, 16), () -> x.setHole(1, 140, 1), () -> x.setHole(2, 300, 5), () -> x.setHole(0, 0, 5));
        due("-2 -2 -3 -3", x.addNote(24) + " " + x.repeat(39, 39) + " " + x.higher(-12) + " " + x.setHole(1, 140, 15));
    }

    private static void constants() {
        Edges.says(0, "`NONE = -1`: There is no such thing; a rest.");
        due(-1, HoleWhistle.NONE);
        Edges.says(0, "`FULL = -2`: A limit would be exceeded.");
        due(-2, HoleWhistle.FULL);
        Edges.says(0, "`WRONG = -3`: It cannot be done as things are.");
        due(-3, HoleWhistle.WRONG);
        Edges.says(0, "`NOTHING = -99`: What is returned for a number that could be negative, if there is none.");
        due(-99, HoleWhistle.NOTHING);
    }

    // ---- promises 36 to 39 ----

    private static void setHole() {
        Edges.says(36, "Returns the previous PLACE; WRONG if it would not be above the PLACE of the hole ahead of it and below that of the next one.");
        HoleWhistle x = whistle(THREE);
        due("-3 -3 170 171 -3 -3", Edges.each(k -> x.setHole(1, k, 9), 139, 140, 171, 170, 200, 201));
        due("170 141 199", Edges.each(k -> x.setHole(1, k, 9), 141, 199, 170));
        due("140 1 -3 -3", Edges.each(k -> x.setHole(0, k, 8), 1, 169, 170, 171));
        due("-3 -3 200 171 299", Edges.each(k -> x.setHole(2, k, 10), 169, 170, 171, 299, 200));
        due("169 170 200", x.hole(0, 0) + " " + x.hole(1, 0) + " " + x.hole(2, 0));
        // A hole alone has none ahead and no next one.
        HoleWhistle one = whistle(W + ";hole 100 5");
        due("100 1 299", Edges.each(k -> one.setHole(0, k, 5), 1, 299, 100));
        due("100 100 6", one.setHole(0, 100, 6) + " " + one.hole(0, 0) + " " + one.hole(0, 1));

        Edges.says(36, "Throws `IndexOutOfBoundsException` if there is no such hole");
        due("index 169 200 index index index", Edges.each(k -> x.setHole(k, x.hole(Math.min(Math.max(k, 0), 2), 0), 9), -1, 0, 2, 3, MIN, MAX));
        due("index index", Edges.each(k -> new HoleWhistle().setHole(k, 5, 5), -1, 0));
        Edges.says(36, "Throws `IllegalArgumentException` if place or size is out of range");
        due("argument 100 1 argument argument argument", Edges.each(k -> one.setHole(0, k, 5), 0, 1, 299, 300, MIN, MAX));
        due("argument 299 299 argument argument argument", Edges.each(k -> one.setHole(0, 299, k), 1, 2, 15, 16, MIN, MAX));
        HoleWhistle shortest = whistle("whistle 200 12 30;hole 100 5");
        due("100 argument", Edges.each(k -> shortest.setHole(0, k, 5), 199, 200));
        HoleWhistle longest = whistle("whistle 600 12 30;hole 100 5");
        due("100 argument", Edges.each(k -> longest.setHole(0, k, 5), 599, 600));

        Edges.says(36, "Sets PLACE and SIZE of a hole (an action); the play at hand and the cost of all changes stay.");
        HoleWhistle y = whistle(THREE);
        y.cover(1, 1);
        y.blow(true);
        y.setHole(1, 171, 15);
        due("30 3", sizes(y, 12, 13));
        due("171 15 1", y.hole(1, 0) + " " + y.hole(1, 1) + " " + y.hole(1, 2));
        y.undo();
        due("170 9 1", y.hole(1, 0) + " " + y.hole(1, 1) + " " + y.hole(1, 2));
    }

    private static void setLimits() {
        Edges.says(37, "Throws `IllegalArgumentException` if halves or crosses is out of range");
        HoleWhistle x = new HoleWhistle();
        due("argument 11 3 argument argument argument", Edges.each(k -> x.setLimits(k, 3), -1, 0, 2, 3, MIN, MAX));
        due("argument 23 20 argument argument argument", Edges.each(k -> x.setLimits(2, k), -1, 0, 3, 4, MIN, MAX));
        Edges.says(37, "Returns 10 times the previous HALVES and the previous CROSSES, added.");
        due("23 0 3 20", x.setLimits(0, 0) + " " + x.setLimits(0, 3) + " " + x.setLimits(2, 0) + " " + x.setLimits(1, 2));
        due("1 2", sizes(x, 4, 5));
    }

    private static void setTolerance() {
        Edges.says(38, "Throws `IllegalArgumentException` if tolerance is out of range");
        HoleWhistle x = new HoleWhistle();
        due("argument 30 5 argument argument argument", Edges.each(x::setTolerance, 4, 5, 49, 50, MIN, MAX));
        due("49", sizes(x, 2));
    }

    private static void setCosts() {
        Edges.says(39, "Throws `IllegalArgumentException` if move, half or breath is out of range");
        HoleWhistle x = new HoleWhistle();
        due("argument 1 1 argument argument argument", Edges.each(k -> x.setCosts(k, 5, 5), 0, 1, 9, 10, MIN, MAX));
        due("argument 9 5 argument argument argument", Edges.each(k -> x.setCosts(5, k, 5), 0, 1, 9, 10, MIN, MAX));
        due("argument 5 5 argument argument argument", Edges.each(k -> x.setCosts(5, 5, k), -1, 0, 9, 10, MIN, MAX));
        due("5 5 9", sizes(x, 6, 7, 8));
    }

    // ---- promises 40 to 44 ----

    private static void addNote() {
        Edges.says(40, "Returns its number; FULL if there are 40.");
        HoleWhistle x = whistle(FORTY);
        due(-2, x.addNote(0));
        x.dropNote(0);
        due("39 -2", x.addNote(0) + " " + x.addNote(0));
        due("0 1", new HoleWhistle().addNote(24) + " " + whistle(THREE + ";tune 0").addNote(-1));
        HoleWhistle rests = whistle(THREE + ";tune ((rest)8)5");
        due("-2 -2", rests.addNote(-1) + " " + rests.addNote(0));
        Edges.says(40, "Throws `IllegalArgumentException` if tone is out of range");
        HoleWhistle y = new HoleWhistle();
        due("argument 0 1 2 argument argument argument", Edges.each(y::addNote, -2, -1, 0, 24, 25, MIN, MAX));
        due("r 0 24", Checks.tune(y));
    }

    private static void setNote() {
        HoleWhistle x = whistle(THREE + ";tune 5 6 7");
        Edges.says(41, "Throws `IndexOutOfBoundsException` if there is no such note");
        due("index 5 7 index index index", Edges.each(k -> x.setNote(k, 9), -1, 0, 2, 3, MIN, MAX));
        due("index index", Edges.each(k -> new HoleWhistle().setNote(k, 9), -1, 0));
        Edges.says(41, "Throws `IllegalArgumentException` if tone is out of range");
        due("argument 6 -1 0 argument argument argument", Edges.each(k -> x.setNote(1, k), -2, -1, 0, 24, 25, MIN, MAX));
        Edges.says(41, "Returns the previous tone.");
        due("24 -1 0", x.setNote(1, -1) + " " + x.setNote(1, 0) + " " + x.setNote(1, 0));
        due("9 0 9", Checks.tune(x));
    }

    /** What is answered, the place and the tune, if a note is dropped from 5 6 7 8 while the place is there. */
    private static String dropped(int note, int place) {
        HoleWhistle x = whistle(THREE + ";tune 5 6 7 8");
        x.rewind(place);
        return x.dropNote(note) + " at " + x.size(14) + " of " + Checks.tune(x);
    }

    private static void dropNote() {
        Edges.says(42, "the numbers of those behind become one less, and so does the place in the tune, if it is behind the note "
            + "(at the note itself it stays); it is 0 if there is no note at it then.");
        due("3 at 0 of 6 7 8", dropped(0, 0));
        due("3 at 0 of 6 7 8", dropped(0, 1));
        due("3 at 1 of 6 7 8", dropped(0, 2));
        due("3 at 2 of 6 7 8", dropped(0, 3));
        due("3 at 0 of 5 7 8", dropped(1, 0));
        due("3 at 1 of 5 7 8", dropped(1, 1));
        due("3 at 1 of 5 7 8", dropped(1, 2));
        due("3 at 1 of 5 6 8", dropped(2, 1));
        due("3 at 2 of 5 6 8", dropped(2, 2));
        due("3 at 2 of 5 6 8", dropped(2, 3));
        due("3 at 2 of 5 6 7", dropped(3, 2));
        due("3 at 0 of 5 6 7", dropped(3, 3));
        HoleWhistle one = whistle(THREE + ";tune 5");
        due("0 0 0", one.dropNote(0) + " " + sizes(one, 14, 9));
        one.undo();
        due("5 0", Checks.tune(one) + " " + one.size(14));
        Edges.says(42, "Throws `IndexOutOfBoundsException` if there is no such note");
        HoleWhistle x = whistle(FORTY);
        due("index 39 38 index index index", Edges.each(x::dropNote, -1, 0, 38, 38, MIN, MAX));
        due("index index", Edges.each(new HoleWhistle()::dropNote, -1, 0));
        // The place is taken back, too.
        HoleWhistle y = whistle(THREE + ";tune 5 6");
        y.rewind(1);
        y.dropNote(1);
        due("0", sizes(y, 14));
        y.undo();
        due("1", sizes(y, 14));
    }

    private static void repeat() {
        Edges.says(43, "Puts the notes from one to another one, both with them, once more behind the latter (an action); "
            + "the place in the tune stays, whatever note is there then.");
        HoleWhistle x = whistle(THREE + ";tune 5 6 7 rest");
        x.rewind(2);
        due("5 5 5 6 7 r", x.repeat(0, 0) + " " + Checks.tune(x));
        due("2 6", x.size(14) + " " + x.note(2));
        x.undo();
        due("5 5 6 7 r r", x.repeat(3, 3) + " " + Checks.tune(x));
        x.undo();
        due("6 5 6 7 6 7 r", x.repeat(1, 2) + " " + Checks.tune(x));
        x.undo();
        due("8 5 6 7 r 5 6 7 r", x.repeat(0, 3) + " " + Checks.tune(x));
        due("2 7", x.size(14) + " " + x.note(2));

        Edges.says(43, "Returns how many notes there are then; FULL if there would be more than 40.");
        HoleWhistle twenty = whistle(THREE + ";tune (1 2 3 4 5)4");
        due(40, twenty.repeat(0, 19));
        due(-2, twenty.repeat(0, 0));
        twenty.undo();
        twenty.addNote(9);
        due("-2 -2 40", twenty.repeat(0, 20) + " " + twenty.repeat(0, 19) + " " + twenty.repeat(0, 18));
        twenty.undo();
        due(40, twenty.repeat(2, 20));
        due("1 2 3 4 5 1 2 3 4 5 1 2 3 4 5 1 2 3 4 5 9 3 4 5 1 2 3 4 5 1 2 3 4 5 1 2 3 4 5 9", Checks.tune(twenty));

        Edges.says(43, "Throws `IndexOutOfBoundsException` if there is no such note");
        HoleWhistle y = whistle(THREE + ";tune 5 6 7");
        due("index 6 5 index index index", Edges.each(k -> repeatAnew(k, 2), -1, 0, 1, 3, MIN, MAX));
        due("index 4 6 index index index", Edges.each(k -> repeatAnew(0, k), -1, 0, 2, 3, MIN, MAX));
        due("index", Edges.each(k -> new HoleWhistle().repeat(k, k), 0));
        Edges.says(43, "Throws `IllegalArgumentException` if to is less than from");
        due("argument 4 5", Edges.each(k -> repeatAnew(1, k), 0, 1, 2));
        due("argument argument 4", Edges.each(k -> repeatAnew(2, k), 0, 1, 2));
        due("5 6 7", Checks.tune(y));
    }

    private static int repeatAnew(int from, int to) { return whistle(THREE + ";tune 5 6 7").repeat(from, to); }

    private static void higher() {
        Edges.says(44, "Returns how many notes that are no rests there are (0 without any); WRONG if a tone would be below 0 or above 24.");
        HoleWhistle x = whistle(THREE + ";tune 3 rest 20");
        due("-3 2", x.higher(-4) + " " + x.higher(-3));
        due("0 r 17 -3", Checks.tune(x) + " " + x.higher(-1));
        due("-3 2", x.higher(8) + " " + x.higher(7));
        due("7 r 24 -3", Checks.tune(x) + " " + x.higher(1));
        due("2 2", x.higher(0) + " " + x.higher(-1));
        due("6 r 23", Checks.tune(x));
        HoleWhistle rests = whistle(THREE + ";tune rest rest");
        due("0 0 r r 0", rests.higher(12) + " " + rests.higher(-12) + " " + Checks.tune(rests) + " " + new HoleWhistle().higher(12));
        Edges.says(44, "Throws `IllegalArgumentException` if by is out of range");
        HoleWhistle y = whistle(THREE + ";tune 12");
        due("argument 1 1 argument argument argument", Edges.each(y::higher, -13, -12, 12, 13, MIN, MAX));
        due("12", Checks.tune(y));
    }

    // ---- promises 45 to 48 ----

    private static void cover() {
        HoleWhistle x = whistle(THREE);
        Edges.says(45, "Throws `IndexOutOfBoundsException` if there is no such hole");
        due("index 2 20 index index index", Edges.each(k -> x.cover(k, 2), -1, 0, 2, 3, MIN, MAX));
        due("index index", Edges.each(k -> new HoleWhistle().cover(k, 0), -1, 0));
        Edges.says(45, "Throws `IllegalArgumentException` if how is out of range");
        due("argument 20 23 26 argument argument argument", Edges.each(k -> x.cover(1, k), -1, 0, 1, 2, 3, MIN, MAX));
        Edges.says(45, "Returns the play at hand then.");
        x.blow(true);
        due("51 52 53", Edges.each(k -> x.cover(0, k), 0, 1, 2));
        due("35 44 53", Edges.each(k -> x.cover(2, k), 0, 1, 2));
    }

    private static void blow() {
        Edges.says(46, "Returns the play at hand then.");
        HoleWhistle x = whistle(THREE);
        due("0 27 27 0 0", x.blow(false) + " " + x.blow(true) + " " + x.blow(true) + " " + x.blow(false) + " " + x.blow(false));
        due("0 0 0", sizes(x, 12, 12, 14));
        HoleWhistle none = new HoleWhistle();
        due("1 0 2", none.blow(true) + " " + none.blow(false) + " " + none.size(13));
    }

    /** What step() answers, the cost so far and the place behind it. */
    private static String step(HoleWhistle x) { return x.step() + " " + sizes(x, 13, 14); }

    private static void step() {
        Edges.says(47, "of the ways of the notes from there on, with the change from the play at hand to its play added to their cost, "
            + "the first play of the easiest one is the play at hand then");
        // 12, then 0, of which 26 is the only play: from 0 on it is 0 that costs least, from 8 on 53, without any play ahead 53.
        HoleWhistle x = whistle(THREE + ";tune 12 0");
        due("53 0 0 1", x.wayPlay(0) + " " + step(x));
        x.undo();
        x.cover(0, 2);
        x.cover(1, 2);
        due("53 4 1", step(x));
        x.undo();
        // From 2 on 0, 18 and 53 cost 4 together with what follows: the lowest one; with a BREATH of 0 53 costs 2.
        x.cover(1, 0);
        due("0 4 1", step(x));
        x.undo();
        x.setCosts(1, 2, 0);
        due("53 5 1", step(x));
        // Behind a rest nothing of it counts: 12 alone is nearest, though 0 comes later.
        HoleWhistle y = whistle(THREE + ";tune 12 rest 0");
        y.cover(2, 2);
        due("18 1 1", step(y));

        Edges.says(47, "(what that change costs counts, behind a rest, too); a rest changes nothing. Then the place is the next one (0 behind the last note).");
        due("18 1 2", step(y));
        due("26 3 0", step(y));
        due("53 4 1", step(y));
        HoleWhistle rest = whistle(THREE + ";tune rest");
        rest.cover(1, 1);
        due("3 2 0", step(rest));
        HoleWhistle one = whistle(THREE + ";tune 0");
        due("26 3 0", step(one));
        due("26 3 0", step(one));
        HoleWhistle ends = whistle(THREE + ";tune 0 rest");
        due("26 3 1", step(ends));
        due("26 3 0", step(ends));
    }

    private static void stepRefused() {
        Edges.says(47, "WRONG if there are no notes, or one from the place on that is no rest has no easy play (also if there is a rest at the place).");
        HoleWhistle none = whistle(THREE);
        due("-3 0", none.step() + " " + none.size(15));
        none.addNote(-1);
        due("0 2", none.step() + " " + none.size(15));
        HoleWhistle last = whistle(THREE + ";tune 0 rest 6 13");
        for (int place = 0; place <= 3; place++) {
            last.rewind(place);
            Edges.idleCall(last, -3, HoleWhistle::step);
        }
        last.setNote(3, 12);
        for (int place = 0; place <= 3; place++) {
            last.rewind(place);
            due(true, last.step() >= 0);
        }
        // One ahead of the place does not count; at the place it does.
        HoleWhistle first = whistle(THREE + ";tune 13 rest 0");
        due(-3, first.step());
        first.rewind(1);
        due("0 26 -3", first.step() + " " + first.step() + " " + first.step());
        // A play that is not easy is none.
        HoleWhistle hard = whistle(THREE + ";tune 5;limit 0 3");
        due(-3, hard.step());
        hard.setLimits(1, 0);
        due(17, hard.step());
    }

    private static void rewind() {
        Edges.says(48, "Throws `IndexOutOfBoundsException` if place is not 0 and there is no such note");
        HoleWhistle x = whistle(SONG);
        due("index 0 0 6 index index index", Edges.each(x::rewind, -1, 0, 6, 1, 7, MIN, MAX));
        due("1", sizes(x, 14));
        HoleWhistle none = new HoleWhistle();
        due("index 0 index", Edges.each(none::rewind, -1, 0, 1));
        HoleWhistle one = whistle(THREE + ";tune rest");
        due("0 index", Edges.each(one::rewind, 0, 1));
        Edges.says(48, "Returns the previous place.");
        due("1 6 0", x.rewind(6) + " " + x.rewind(0) + " " + x.rewind(0));
    }

    // ---- promises 51 to 53 ----

    private static void writePlay() {
        Edges.says(51, "Throws `IndexOutOfBoundsException` if there is no such play");
        HoleWhistle x = whistle(THREE);
        due("index 3 3 4 4 index index index", Edges.each(x::writePlay, -1, 0, 26, 27, 53, 54, MIN, MAX));
        due("xxx+", Checks.output(x));
        HoleWhistle none = new HoleWhistle();
        due("index 0 1 index", Edges.each(none::writePlay, -1, 0, 1, 2));
        due("+", Checks.output(none));
        Edges.says(51, "Writes a play to the output, in place of what it had: for each hole o if it is open, h if it is half covered, x if it is closed; "
            + "and a plus sign (byte 43) if it is blown strongly.");
        x.writePlay(5 + 27);
        due("120 104 111 43 -1", Edges.each(x::outputByte, 0, 1, 2, 3, 4));
        x.writePlay(5);
        due("120 104 111 -1", Edges.each(x::outputByte, 0, 1, 2, 3));
        HoleWhistle seven = whistle(W + ";hole 1 2;hole 2 2;hole 3 2;hole 4 2;hole 5 2;hole 6 2;hole 7 2");
        due("7 8", Edges.each(seven::writePlay, 2186, 2187));
    }

    private static void writeTune() {
        Edges.says(52, "Writes the tune to the output, in place of what it had: the tones, r for a rest, with a space between two.");
        HoleWhistle x = whistle(THREE);
        x.writePlay(0);
        due("0 ", x.writeTune() + " " + Checks.output(x));
        x.addNote(9);
        due("1 9", x.writeTune() + " " + Checks.output(x));
        x.addNote(10);
        due("4 9 10", x.writeTune() + " " + Checks.output(x));
        x.addNote(-1);
        due("6 9 10 r", x.writeTune() + " " + Checks.output(x));
        x.setNote(0, 0);
        x.setNote(1, 24);
        due("6 0 24 r", x.writeTune() + " " + Checks.output(x));
        due("48 32 50 52 32 114 -1", Edges.each(x::outputByte, 0, 1, 2, 3, 4, 5, 6));
        x.setNote(0, 19);
        x.setNote(1, 20);
        due("7 19 20 r", x.writeTune() + " " + Checks.output(x));
        HoleWhistle longest = whistle(THREE + ";tune (10 24 12 19)9 10 24 12 19");
        due("119 57 -1", longest.writeTune() + " " + Edges.each(longest::outputByte, 118, 119));
    }

    private static void outputByte() {
        Edges.says(53, "Returns the byte; NONE if there is none.");
        HoleWhistle x = whistle(THREE);
        due("-1 -1", Edges.each(x::outputByte, -1, 0));
        x.writePlay(53);
        due("-1 120 43 -1 -1 -1", Edges.each(x::outputByte, -1, 0, 3, 4, MIN, MAX));
        // The output is what was written, whatever becomes of the whistle; a shorter one leaves nothing behind it.
        Checks.load(x, W);
        due("xxx+", Checks.output(x));
        x.writePlay(1);
        due("43 -1", Edges.each(x::outputByte, 0, 1));
    }

    // ---- promises 54 to 56 ----

    private static void undo() {
        Edges.says(54, "Returns how many can be taken back then; NONE, and nothing changes, if there is none.");
        HoleWhistle x = whistle(SONG);
        Edges.idleCall(x, -1, HoleWhistle::undo);
        x.blow(true);
        x.cover(0, 2);
        due("1 27", x.undo() + " " + x.size(12));
        due("0 0", x.undo() + " " + x.size(12));
        Edges.idleCall(x, -1, HoleWhistle::undo);
        Edges.says(54, "Takes the latest action back that was not taken back. The output stays.");
        x.addNote(1);
        x.addNote(2);
        x.undo();
        x.addNote(3);
        x.writeTune();
        due("1 0 -1", x.undo() + " " + x.undo() + " " + x.undo());
        due("0 6 9 12 r 12 0 1 3", Checks.output(x));
        due("0 6 9 12 r 12 0", Checks.tune(x));
        // Eight are done and taken back, and so again: the round of those that are kept goes on.
        for (int round = 0; round < 3; round++) {
            for (int k = 0; k < 5 + round; k++) x.addNote(k);
            for (int k = 4 + round; k >= 0; k--) due(k, x.undo());
            due("7", sizes(x, 9));
        }
    }

    private static void saveSnapshot() {
        Edges.says(55, "Throws `IllegalArgumentException` if slot is out of range");
        HoleWhistle x = whistle(SONG);
        due("argument 7 7 argument argument argument", Edges.each(x::saveSnapshot, -1, 0, 1, 2, MIN, MAX));
        due("0", Edges.each(new HoleWhistle()::saveSnapshot, 0));
        Edges.says(55, "Copies everything except the input buffer, the results of the latest load, the actions, the output and the snapshots to a snapshot.");
        HoleWhistle y = whistle(SONG + ";limit 2 3;cost 4 5 6");
        y.cover(1, 1);
        y.rewind(3);
        y.setTolerance(20);
        String kept = Checks.sizes(y).replaceFirst(" 3$", " 0");
        y.saveSnapshot(1);
        due(3, y.size(15));
        Checks.feed(y, "wh");
        y.writePlay(53);
        y.setHole(0, 141, 3);
        y.dropNote(0);
        y.blow(true);
        y.setCosts(1, 1, 1);
        y.setLimits(0, 0);
        y.restoreSnapshot(1);
        due(kept, Checks.sizes(y));
        due("140 8 0 6 9 12 r 12 0", y.hole(0, 0) + " " + y.hole(0, 1) + " " + Checks.tune(y));
        due("xxx+ 3", Checks.output(y) + " " + y.append(1L));
        due("-100 1 0", y.load() + " " + y.loadError() + " " + y.loadStatement());
        y.restoreSnapshot(1);
        due("1 0", y.loadError() + " " + y.loadStatement());
        // One slot does not touch the other one; a later one in the same slot takes the place of the former.
        y.saveSnapshot(0);
        y.dropNote(0);
        due(6, y.saveSnapshot(1));
        due("7 6", y.restoreSnapshot(0) + " " + y.restoreSnapshot(1));
        y.dropNote(0);
        y.saveSnapshot(1);
        due("7 5", y.restoreSnapshot(0) + " " + y.restoreSnapshot(1));
    }

    private static void restoreSnapshot() {
        Edges.says(56, "Throws `IllegalArgumentException` if slot is out of range");
        HoleWhistle x = whistle(SONG);
        due("argument -1 -1 argument argument argument", Edges.each(x::restoreSnapshot, -1, 0, 1, 2, MIN, MAX));
        Edges.says(56, "Returns the number of notes then; NONE, and nothing changes, if nothing was saved there.");
        x.blow(true);
        x.saveSnapshot(1);
        x.addNote(3);
        Edges.idleCall(x, -1, o -> o.restoreSnapshot(0));
        due(2, x.size(15));
        due(7, x.restoreSnapshot(1));
        due(0, new HoleWhistle().saveSnapshot(0));
        Edges.says(56, "Replaces everything by a copy of a snapshot, which stays; nothing can be taken back then.");
        due("0 -1", x.size(15) + " " + x.undo());
        String before = Edges.picture(x);
        x.setNote(0, 24);
        x.setHole(2, 290, 15);
        x.cover(1, 2);
        due(7, x.restoreSnapshot(1));
        due(before, Edges.picture(x));
        due(-1, x.undo());
        // Also the holes that there were, behind a load of fewer or more of them.
        Checks.load(x, W + ";hole 5 5");
        due(7, x.restoreSnapshot(1));
        due(before, Edges.picture(x));
        Checks.load(x, W + ";hole 1 2;hole 2 2;hole 3 2;hole 4 2;hole 5 2;hole 6 2;hole 7 2;tune 12 0");
        due(12 - 11, x.cost());
        due(7, x.restoreSnapshot(1));
        due(before, Edges.picture(x));
    }

    private static void manyCalls() {
        Edges.says(0, "An object is used for at most 512 calls after it has been made; what later calls answer is free.");
        HoleWhistle x = new HoleWhistle();
        x.setCosts(9, 9, 9);
        for (int k = 1; k <= 509; k++) due(k % 2, x.blow(k % 2 == 1));
        due("4581 8", sizes(x, 13, 15));
    }
}
