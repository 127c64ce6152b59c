/** The boundary cases that section 1 and promises 1 to 5 name, each with the nearest call on the other side. */
public final class DescriptionEdgesTest {
    private static final String W = "whistle 300 12 30";
    private static final String T = W + ";tune ";
    private static final String SIX = W + ";hole 1 2;hole 2 2;hole 3 2;hole 4 2;hole 5 2;hole 6 2";
    private static final String SEVEN = SIX + ";hole 7 2";
    private static final String FORTY = "(1 2 3 4)9 1 2 3 4";

    public static void main(String[] args) {
        statements();
        whistles();
        holes();
        limitsAndCosts();
        tones();
        brackets();
        fortyNotes();
        words();
        spaces();
        errorsOneAndTwo();
        errorsThree();
        errorsFour();
        severalErrors();
        newObject();
        append();
        load();
        loadAnew();
        loadError();
        loadStatement();
        Checks.end("DescriptionEdgesTest");
    }

    private static void due(Object want, Object got) { Checks.due(want, got); }

    private static String read(String text) { return Edges.read(text); }

    private static final String GOOD = "0 0 -1";

    /** The sizes from one to another one, behind a text. */
    private static String sizes(String text, int from, int to) {
        HoleWhistle x = Checks.whistle(text);
        StringBuilder b = new StringBuilder();
        for (int k = from; k <= to; k++) b.append(k == from ? "" : " ").append(x.size(k));
        return b.toString();
    }

    private static String tune(String parts) { return Checks.tune(Checks.whistle(T + parts)); }

    private static void statements() {
        Edges.says(0, "A description is a list of one or more statements, separated by semicolons;");
        due("-100 1 0", read(""));
        due(GOOD, read(W));
        due("-118 1 1", read(W + ";"));
        due(GOOD, read(W + ";limit 0 0"));
        due("-128 1 2", read(W + ";limit 0 0;"));
        due("-118 1 1", read(W + ";;limit 0 0"));
        due("-100 1 0", read(";" + W));
        due("-118 1 0", read(W + " limit 0 0"));
    }

    private static void whistles() {
        Edges.says(0, "whistle LENGTH BORE TOLERANCE - 200 to 600, 5 to 20, 5 to 49; it stands only there;");
        due("-108 2 0", read("whistle 199 12 30"));
        due("200 12 30", sizes("whistle 200 12 30", 0, 2));
        due("600 12 30", sizes("whistle 600 12 30", 0, 2));
        due("-108 2 0", read("whistle 601 12 30"));
        due("-112 2 0", read("whistle 300 4 30"));
        due("300 5 30", sizes("whistle 300 5 30", 0, 2));
        due("300 20 30", sizes("whistle 300 20 30", 0, 2));
        due("-112 2 0", read("whistle 300 21 30"));
        due("-115 2 0", read("whistle 300 12 4"));
        due("300 12 5", sizes("whistle 300 12 5", 0, 2));
        due("300 12 49", sizes("whistle 300 12 49", 0, 2));
        due("-115 2 0", read("whistle 300 12 50"));
        // Only there: not as a second statement, and nothing else as the first one.
        due("-118 1 1", read(W + ";whistle 300 12 30"));
        due(GOOD, read(W + ";limit 1 1"));
        due("-100 1 0", read("limit 1 1"));
        due("-100 1 0", read("hole 5 5;" + W));
    }

    private static void holes() {
        Edges.says(0, "hole PLACE SIZE - 1 to LENGTH - 1, but above the PLACE of the hole told ahead; 2 to 15: at most 7 holes;");
        due("-123 2 1", read(W + ";hole 0 5"));
        due(GOOD, read(W + ";hole 1 5"));
        due(GOOD, read(W + ";hole 299 5"));
        due("-123 2 1", read(W + ";hole 300 5"));
        due(GOOD, read("whistle 200 12 30;hole 199 5"));
        due("-123 2 1", read("whistle 200 12 30;hole 200 5"));
        due(GOOD, read("whistle 600 12 30;hole 599 5"));
        due("-123 2 1", read("whistle 600 12 30;hole 600 5"));
        due("-134 2 2", read(W + ";hole 100 5;hole 99 5"));
        due("-134 2 2", read(W + ";hole 100 5;hole 100 5"));
        due(GOOD, read(W + ";hole 100 5;hole 101 5"));
        due(GOOD, read(W + ";hole 298 5;hole 299 5"));
        due("-134 2 2", read(W + ";hole 299 5;hole 299 5"));
        due("-134 2 2", read(W + ";hole 299 5;hole 300 5"));
        // The hole told ahead counts, whatever statements stand between.
        due("-144 2 3", read(W + ";hole 100 5;limit 0 0;hole 100 5"));
        due(GOOD, read(W + ";hole 100 5;limit 0 0;hole 101 5"));
        due("-127 2 1", read(W + ";hole 100 1"));
        due(GOOD, read(W + ";hole 100 2"));
        due(GOOD, read(W + ";hole 100 15"));
        due("-127 2 1", read(W + ";hole 100 16"));
        due("6", sizes(SIX, 3, 3));
        due("7", sizes(SEVEN, 3, 3));
        due("-181 3 8", read(SEVEN + ";hole 8 2"));

        Edges.says(0, "Holes and notes are numbered from 0.");
        HoleWhistle x = Checks.whistle(W + ";hole 100 5;hole 150 6;tune 7 8 9");
        due("index 100 150 index", Edges.each(k -> x.hole(k, 0), -1, 0, 1, 2));
        due("index 7 9 index", Edges.each(x::note, -1, 0, 2, 3));
    }

    private static void limitsAndCosts() {
        Edges.says(0, "limit HALVES CROSSES - 0 to 2, 0 to 3; the last one counts; without it both are 1;");
        due("0 0", sizes(W + ";limit 0 0", 4, 5));
        due("2 3", sizes(W + ";limit 2 3", 4, 5));
        due("-124 2 1", read(W + ";limit 3 3"));
        due("-126 2 1", read(W + ";limit 2 4"));
        due("-124 1 1", read(W + ";limit -1 0"));
        due("-126 1 1", read(W + ";limit 0 -1"));
        due("1 1", sizes(W, 4, 5));
        due("0 2", sizes(W + ";limit 0 2", 4, 5));
        due("2 1", sizes(W + ";limit 0 2;limit 2 1", 4, 5));
        due("0 2", sizes(W + ";limit 2 1;hole 5 5;limit 2 3;limit 0 2", 4, 5));

        Edges.says(0, "cost MOVE HALF BREATH - 1 to 9, 1 to 9, 0 to 9; the last one counts; without it 1, 2 and 1;");
        due("-123 2 1", read(W + ";cost 0 1 0"));
        due("-125 2 1", read(W + ";cost 1 0 0"));
        due("1 1 0", sizes(W + ";cost 1 1 0", 6, 8));
        due("-127 1 1", read(W + ";cost 1 1 -1"));
        due("9 9 9", sizes(W + ";cost 9 9 9", 6, 8));
        due("-123 2 1", read(W + ";cost 10 9 9"));
        due("-125 2 1", read(W + ";cost 9 10 9"));
        due("-127 2 1", read(W + ";cost 9 9 10"));
        due("1 2 1", sizes(W, 6, 8));
        due("3 4 5", sizes(W + ";cost 3 4 5", 6, 8));
        due("6 7 8", sizes(W + ";cost 3 4 5;cost 6 7 8", 6, 8));
        due("3 4 5", sizes(W + ";cost 9 9 9;cost 6 7 8;cost 3 4 5", 6, 8));
    }

    private static void tones() {
        Edges.says(0, "a PART is a number, 0 to 24: a note of this tone; or the word rest: a rest;");
        due("0", tune("0"));
        due("24", tune("24"));
        due("-123 2 1", read(T + "25"));
        due("-123 1 1", read(T + "-1"));
        due("r", tune("rest"));
        due("-123 1 1", read(T + "res"));
        due("-123 1 1", read(T + "rests"));
        due("-123 1 1", read(T + "rust"));
        due("1", sizes(T + "rest", 10, 10));
        due("0", sizes(T + "0", 10, 10));

        Edges.says(0, "tune PART { PART }");
        due("-122 1 1", read(W + ";tune"));
        due("-123 1 1", read(T + ";limit 0 0"));
        due("1 0 -1", read(T + "5"));
        due("1 0 -1", read(T + "5;limit 0 0"));
        due("2 0 -1", read(T + "5 6"));
    }

    private static void brackets() {
        Edges.says(0, "or ( PART { PART } ) N - what is in the brackets N times, 1 to 9.");
        due("-126 2 1", read(T + "(5)0"));
        due("5", tune("(5)1"));
        due("5 5 5 5 5 5 5 5 5", tune("(5)9"));
        due("-126 2 1", read(T + "(5)10"));
        due("-126 1 1", read(T + "(5)"));
        due("-126 1 1", read(T + "(5);limit 0 0"));
        due("-124 1 1", read(T + "()1"));
        due("-125 1 1", read(T + "(()1)1"));
        due("1 r 1 r 2", tune("(1 rest)2 2"));
        due("1 2 2 3 1 2 2 3 4", tune("(1(2)2 3)2 4"));

        Edges.says(0, "At most 4 brackets are open at the same time, and a tune has at most 40 notes, rests with them; it stands at most once.");
        due("1", tune("((((1)1)1)1)1"));
        due("-127 3 1", read(T + "(((((1)1)1)1)1)1"));
        // Those that are closed again do not count.
        due("1 1 1 1 1 1", tune("(1)1(1)1(1)1(1)1(1)1(1)1"));
        due("1 1 1", tune("((((1)1(1)1)1(1)1)1)1"));
        due("-131 3 1", read(T + "((((1)1((1)1)1)1)1)1"));
        due("1 1", tune("((((1)1)1((1)1)1)1)1"));
    }

    private static void fortyNotes() {
        Edges.says(0, "At most 4 brackets are open at the same time, and a tune has at most 40 notes, rests with them; it stands at most once.");
        due("40 0 -1", read(T + FORTY));
        due("-142 4 1", read(T + FORTY + " 5"));
        due("-142 4 1", read(T + FORTY + " rest"));
        due("40 13", sizes(T + "(rest 2 3 4)9 rest rest rest rest", 9, 10));
        due("-157 4 1", read(T + "(rest 2 3 4)9 rest rest rest rest 5"));
        due("40 40", sizes(T + "((rest)5)8", 9, 10));
        due("39 0 -1", read(T + "(1 2 3 4)9 1 2 3"));
        // At most once: a second one is an error, also if the first one had room left.
        due("1 0 -1", read(T + "1;limit 0 0"));
        due("-125 3 2", read(T + "1;tune 2"));
        due("-135 3 3", read(T + "1;limit 0 0;tune 2"));
    }

    private static void words() {
        Edges.says(0, "A word is a maximal run of lower-case letters, a number a maximal run of digits.");
        // Ahead of a and behind z, ahead of 0 and behind 9 no word and no number goes on.
        due("-107 1 0", read("whistle`300 12 30"));
        due("-107 1 0", read("whistle{300 12 30"));
        due("-100 1 0", read("whistlea300 12 30"));
        due("-100 1 0", read("whistlez300 12 30"));
        due("-111 1 0", read("whistle 300/12 30"));
        due("-111 1 0", read("whistle 300:12 30"));
        due("-108 2 0", read("whistle 3000 12 30"));
        due("-108 2 0", read("whistle 3009 12 30"));
        due("-100 1 0", read("Whistle 300 12 30"));
        due("-100 1 0", read("xhistle 300 12 30"));
        due("-118 1 1", read(W + ";xole 1 2"));
        due("-118 1 1", read(W + ";gole 1 2"));
        due("-118 1 1", read(W + ";limi 1 1"));
        due("-118 1 1", read(W + ";cast 1 2 1"));
        due("-118 1 1", read(W + ";tunf 1"));
        due("-123 1 1", read(T + "xest"));
        due("-100 1 0", read("whistlE 300 12 30"));
        due("12", tune("12"));
        due("1 2", tune("1 2"));
        due("-123 1 1", read(T + "restrest"));
        due("r r", tune("rest rest"));
        due("1 r 2", tune("1rest2"));
    }

    private static void spaces() {
        Edges.says(0, "Spaces (byte 32) may stand before and after words, numbers, brackets and semicolons; "
            + "they are required only between two numbers and between two words.");
        due("1 r 1 r r r 1 2", tune("  (  1  rest  )  2  rest  rest 1 2 ;  hole  5  2  "));
        due("1 r 1 r r 1 2", tune("(1rest)2rest1 2;hole5 2"));
        due("8 0 -1", read("  whistle  300  12  30  ;  tune  (  1  2  )  3  4  5  "));
        due("4 0 -1", read("whistle300 12 30;tune(1)3rest;limit1 1;cost1 2 1;hole5 2"));
        due("-108 2 0", read("whistle 30012 30"));
        due("-100 1 0", read("whi stle 300 12 30"));
        // The bytes beside 32, and what else is white, are none.
        due("-107 1 0", read("whistle\u001f300 12 30"));
        due("-107 1 0", read("whistle!300 12 30"));
        due("-107 1 0", read("whistle\t300 12 30"));
        due("-107 1 0", read("whistle\u00a0300 12 30"));
        due("-117 1 0", read(W + "\n"));
        due(GOOD, read(W + " "));
    }

    private static void errorsOneAndTwo() {
        Edges.says(0, "The text is read from left to right; the first error ends it.");
        due("-108 2 0", read("whistle 199 4 50"));
        due("-112 2 0", read("whistle 200 4 x"));
        due("-114 1 0", read("whistle 200 5 x;hole 0 0"));
        due("-115 1 0", read("whistle 200 5 5x;hole 0 0"));
        due("-121 2 1", read("whistle 200 5 5;hole 0 0"));

        Edges.says(0, "Error 1: a byte, word or number cannot stand at its place (position of its first byte), "
            + "or the text ends too early (position: its length).");
        due("-117 1 0", read(W + ","));
        due("-118 1 0", read(W + " hole 1 2"));
        due("-118 1 0", read(W + " 31"));
        due("-100 1 0", read("300 12 30"));
        due("-108 1 0", read("whistle whistle"));
        due("-118 1 1", read(W + ";5"));
        due("-118 1 1", read(W + ";rest"));
        due("-118 1 1", read(W + ";holes 1 2"));
        due("-117 1 0", read(W + "\u00ff"));
        due("-117 1 0", read(W + "\u0001"));
        due("-124 1 1", read(T + "1)2"));
        due("-125 1 1", read(T + "(1;"));
        due("-126 1 1", read(T + "(1)(2)2"));
        due("-125 1 1", read(T + "1 hole 3 4"));
        due("-103 1 0", read("   "));
        due("-107 1 0", read("whistle"));
        due("-108 1 0", read("whistle "));
        due("-114 1 0", read("whistle 300 12"));
        due("-116 1 0", read("whistle 300 12  "));
        due(GOOD, read("whistle 300 12 5"));
        due("-125 1 1", read(T + "(1"));
        due("-126 1 1", read(T + "(1)"));
        due("1 0 -1", read(T + "(1)1"));

        Edges.says(0, "Error 2: a number is out of its range (position of its first digit).");
        due("-108 2 0", read("whistle 00199 12 30"));
        due("-110 2 0", read("whistle   00601 12 30"));
        due(GOOD, read("whistle 00200 012 00000000000000000000000000030"));
        // Numbers that would be in range if they wrapped around.
        due("-108 2 0", read("whistle 4294967596 12 30"));
        due("-108 2 0", read("whistle 18446744073709551916 12 30"));
        due("-124 2 1", read(W + ";limit 4294967296 0"));
        due("-123 2 1", read(T + "4294967296"));
        due("1 0 -1", read(T + "0"));
    }

    private static void errorsThree() {
        Edges.says(0, "Error 3: an eighth hole or a second tune (position of the statement's first byte, found ahead of all that follows); "
            + "a fifth bracket that would be open (position of it).");
        due("-181 3 8", read(SEVEN + ";hole 8 2"));
        due("-181 3 8", read(SEVEN + ";hole"));
        due("-181 3 8", read(SEVEN + ";hole 7 2"));
        due("-181 3 8", read(SEVEN + ";hole x"));
        due("-181 3 8", read(SEVEN + ";hole 900 900"));
        due("-181 1 8", read(SEVEN + ";holes 8 2"));
        due("-181 1 8", read(SEVEN + ";hol 8 2"));
        due("-176 1 7", read(SIX + ";hole"));
        due("-177 2 7", read(SIX + ";hole 6 2"));
        due("-125 3 2", read(T + "1;tune 2"));
        due("-125 3 2", read(T + "1;tune"));
        due("-125 3 2", read(T + "1;tune 25"));
        due("-125 3 2", read(T + "1;tune (((((1"));
        due("-125 1 2", read(T + "1;tunes 2"));
        due("-123 2 1", read(T + "25;tune 1"));
        due("-127 3 1", read(T + "((((("));
        due("-127 3 1", read(T + "((((()"));
        due("-127 1 1", read(T + "(((("));
        due("-127 1 1", read(T + "(((()"));
        due("-131 3 1", read(T + " ( ( ( ("+ "(1)1)1)1)1)1"));
    }

    private static void errorsFour() {
        Edges.says(0, "Error 4: the tune would have more than 40 notes (position of the tone or of the word rest with which that would be; "
            + "of N, if it is by the repeats; what is in brackets counts once up to its N).");
        due("40 0 -1", read(T + FORTY));
        due("-142 4 1", read(T + FORTY + " 5"));
        due("-142 4 1", read(T + FORTY + " rest"));
        due("-144 4 1", read(T + FORTY + "   5 5 5"));
        due("40 0 -1", read(T + "(1 2 3 4 5)8"));
        due("-134 4 1", read(T + "(1 2 3 4 5)9"));
        due("-135 4 1", read(T + "(1 2 3 4 5) 9"));
        due("36 0 -1", read(T + "1 (1 2 3 4 5)7"));
        due("-136 4 1", read(T + "1 (1 2 3 4 5)8"));
        // In the brackets each note counts once: the fortieth may stand there, the next one is the error.
        due("40 0 -1", read(T + "(1 2 3 4)9 1 2 3 (4)1"));
        due("-143 4 1", read(T + "(1 2 3 4)9 1 2 3 (4)2"));
        due("-143 4 1", read(T + "(1 2 3 4)9 1 2 3 (4 5)1"));
        due("-143 4 1", read(T + "(1 2 3 4)9 1 2 3 (4 rest)1"));
        due("-142 4 1", read(T + FORTY + "(5)1"));
        due("40 0 -1", read(T + "((1 2)9 3 4)2"));
        due("-135 4 1", read(T + "((1 2)9 3 4)3"));
        due("-137 4 1", read(T + "((1 2)9 3 4 5)2"));
        due("36 0 -1", read(T + "(((1 2 3)3)2)2"));
        due("-136 4 1", read(T + "(((1 2 3)3)2)3"));
        due("-134 4 1", read(T + "(((1 2 3)3)5)1"));
    }

    private static void severalErrors() {
        Edges.says(0, "Of several errors at one place the one with the smaller number counts.");
        due("-142 4 1", read(T + FORTY + " 24"));
        due("-142 2 1", read(T + FORTY + " 25"));
        due("-142 4 1", read(T + FORTY + " rest"));
        due("-142 1 1", read(T + FORTY + " rust"));
        due("-134 4 1", read(T + "(1 2 3 4 5)9"));
        due("-134 2 1", read(T + "(1 2 3 4 5)10"));
        due("-134 2 1", read(T + "(1 2 3 4 5)0"));
        due("-181 3 8", read(SEVEN + ";hole 8 2"));
        due("-181 1 8", read(SEVEN + ";holes 2"));
    }

    private static void newObject() {
        Edges.says(0, "A new object is as by the text \"whistle 300 12 30\".");
        due("300 12 30 0 1 1 1 2 1 0 0 2 0 0 0 0", Checks.sizes(new HoleWhistle()));
        due(Edges.picture(Checks.whistle(W)), Edges.picture(new HoleWhistle()));

        Edges.says(1, "Creates a whistle as told in section 1, with an empty input buffer, an empty output and no snapshots.");
        HoleWhistle x = new HoleWhistle();
        due(0, x.append(0L));
        due(1, x.append(120L));
        due(-1, x.outputByte(0));
        x.writePlay(1);
        due(43, x.outputByte(0));
        due(-1, x.restoreSnapshot(0));
        due(-1, x.restoreSnapshot(1));
        x.saveSnapshot(1);
        due(-1, x.restoreSnapshot(0));
        due(0, x.restoreSnapshot(1));
    }

    private static void append() {
        Edges.says(2, "Appends bytes to the input buffer: the 8 bytes of a number, the most significant byte first, where bytes that are 0 are left out.");
        HoleWhistle x = new HoleWhistle();
        due(0, x.append(0L));
        due(1, x.append(1L));
        due(2, x.append(Long.MIN_VALUE));
        due(10, x.append(-1L));
        due(18, x.append(Long.MAX_VALUE));
        due(19, x.append(0x0100000000000000L));
        due(20, x.append(0x00FF000000000000L));
        due(22, x.append(0x0100000000000001L));
        due(25, x.append(0x2000002000000020L));
        due(-100, x.load());
        due(8, x.append(0x77686973746C6520L));
        due(15, x.append(0x0033303031322033L));
        due(17, x.append(0x0000300000002000L));
        // "whistle 300" and "12" without the space: one number out of range.
        due(-108, x.load());
        due(8, x.append(0x77686973746C6533L));
        due(15, x.append(0x0030302031322033L));
        due(16, x.append(0x0000300000000000L));
        due(0, x.load());

        Edges.says(2, "Returns the new length of the buffer; FULL if it would exceed 400.");
        HoleWhistle y = new HoleWhistle();
        for (int k = 1; k <= 49; k++) due(8 * k, y.append(0x2020202020202020L));
        Edges.idleCall(y, 392, o -> o.append(0L));
        due(399, y.append(0x0020202020202020L));
        Edges.idleCall(y, -2, o -> o.append(0x2020202020202020L));
        Edges.idleCall(y, -2, o -> o.append(0x2000000000000020L));
        due(400, y.append(0x0000002000000000L));
        Edges.idleCall(y, -2, o -> o.append(1L));
        Edges.idleCall(y, -2, o -> o.append(Long.MIN_VALUE));
        Edges.idleCall(y, 400, o -> o.append(0L));
        // Nothing of the refused bytes is there: spaces alone, up to the length.
        due("-500 1 0", y.load() + " " + y.loadError() + " " + y.loadStatement());
        for (int k = 1; k <= 49; k++) y.append(0x2020202020202020L);
        due(400, y.append(0x2020202020202020L));
        due(-500, y.load());
        HoleWhistle z = new HoleWhistle();
        Checks.feed(z, W + " ".repeat(382));
        due(400, z.append(0x3100000000000000L));
        due(-499, z.load());
        Checks.feed(z, W + " ".repeat(372) + ";limit 0 0");
        due(400, z.append((long) ' '));
        due(0, z.load());
        due("0 0", z.size(4) + " " + z.size(5));
    }

    private static void load() {
        Edges.says(3, "Returns the number of notes; -100 minus the position of the error if the text has one, "
            + "and then nothing but the buffer and the results of loadError() and loadStatement() changes.");
        HoleWhistle x = new HoleWhistle();
        due(0, Checks.load(x, W));
        due(1, Checks.load(x, T + "rest"));
        due(40, Checks.load(x, T + FORTY));
        due(-100, Checks.load(x, "!"));
        due(-101, Checks.load(x, " !"));
        Checks.load(x, W + ";hole 100 5;hole 120 5;tune 0 12 rest 0");
        x.cover(0, 2);
        x.rewind(2);
        x.writeTune();
        x.saveSnapshot(0);
        String before = Edges.picture(x);
        due(-133, Checks.load(x, "whistle 400 13 31;hole 7 7;limit 3 0"));
        due(before.replace("load 0 -1", "load 2 2"), Edges.picture(x));
        due(-139, Checks.load(x, "whistle 400 13 31;hole 7 7;tune (1 2)9 !"));
        due(before.replace("load 0 -1", "load 1 2"), Edges.picture(x));
        due(-100, x.load());
        due("1 0 -1", x.undo() + " " + x.undo() + " " + x.undo());
        due("0 0", x.size(12) + " " + x.size(14));

        Edges.says(3, "The buffer is emptied, also on an error.");
        HoleWhistle y = new HoleWhistle();
        due(17, Checks.feed(y, W));
        due(0, y.load());
        due(1, Checks.feed(y, "w"));
        due(-100, y.load());
        due(0, y.append(0L));
        due(17, Checks.feed(y, W));
        due(0, y.load());
        due(-100, y.load());
    }

    private static void loadAnew() {
        Edges.says(3, "Reads the input buffer as a description (section 1) and begins anew; nothing can be taken back.");
        HoleWhistle x = Checks.whistle("whistle 400 13 20;hole 100 7;limit 2 3;cost 4 5 6;tune 0 12");
        x.cover(0, 2);
        x.blow(true);
        x.rewind(1);
        due("5 10 1 3", x.size(12) + " " + x.size(13) + " " + x.size(14) + " " + x.size(15));
        due(0, Checks.load(x, W));
        due("300 12 30 0 1 1 1 2 1 0 0 2 0 0 0 0", Checks.sizes(x));
        due(-1, x.undo());

        // Whatever error ended the text ahead: brackets, holes, notes and the tune that it told do not count.
        HoleWhistle z = new HoleWhistle();
        String[] ended = {T + "(((1", T + "((((1)1)1", T + FORTY + " 5", SEVEN + ";hole 8 2", T + "1;tune 1", T + "(1 2)9;",
            W + ";limit 0 0;cost 9 9 9;hole 200 5;hole 100 5", "whistle 600 20 49;tune (rest)5 !"};
        for (String text : ended) {
            due(true, Checks.load(z, text) < 0);
            due("2 3 4 3 4", Checks.load(z, T + "2 ((((3 4)1)1)1)2") < 0 ? "error" : Checks.tune(z));
            due("300 12 30 0 1 1 1 2 1 5 0 2 0 0 0 0", Checks.sizes(z));
            due(true, Checks.load(z, text) < 0);
            due(-127, Checks.load(z, T + "(((((1"));
            due(0, Checks.load(z, SEVEN));
            due("1 2 300", z.hole(0, 0) + " " + z.hole(0, 1) + " " + z.size(0));
        }

        Edges.says(3, "The output and the snapshots stay.");
        HoleWhistle y = Checks.whistle(W + ";hole 100 7;tune 0 12");
        y.writePlay(5);
        y.saveSnapshot(1);
        due(0, Checks.load(y, W));
        due("x+", Checks.output(y));
        due(-1, y.restoreSnapshot(0));
        due(2, y.restoreSnapshot(1));
        due("0 12", Checks.tune(y));
    }

    private static void loadError() {
        Edges.says(4, "Returns 1 to 4 (section 1); 0 if the text had no error or there was no such call.");
        HoleWhistle x = new HoleWhistle();
        due(0, x.loadError());
        x.append(33L);
        due(0, x.loadError());
        x.load();
        due(1, x.loadError());
        Checks.load(x, "whistle 1");
        due(2, x.loadError());
        Checks.load(x, T + "1;tune 1");
        due(3, x.loadError());
        Checks.load(x, T + FORTY + " 1");
        due(4, x.loadError());
        Checks.load(x, W);
        due(0, x.loadError());

        Edges.says(4, "Returns the kind of the error of the latest call of load().");
        Checks.load(x, "whistle 1");
        x.saveSnapshot(0);
        Checks.load(x, W);
        x.restoreSnapshot(0);
        due("0 -1", x.loadError() + " " + x.loadStatement());
        Checks.load(x, "whistle 1");
        x.restoreSnapshot(0);
        x.blow(true);
        x.undo();
        Checks.feed(x, W);
        due("2 0", x.loadError() + " " + x.loadStatement());
    }

    private static void loadStatement() {
        Edges.says(5, "A byte behind a statement that is no semicolon belongs to that statement; "
            + "what follows a semicolon, also the end of the text, belongs to the next one.");
        due("-127 1 1", read(W + ";limit 0 0,"));
        due("-128 1 1", read(W + ";limit 0 0 x"));
        due("-128 1 2", read(W + ";limit 0 0;,"));
        due("-128 1 2", read(W + ";limit 0 0;"));
        due("-130 1 2", read(W + ";limit 0 0;  "));
        due("-128 1 2", read(W + ";limit 0 0;;"));
        due("-125 1 1", read(W + ";limit 0"));
        due("-126 1 1", read(W + ";limit 0 "));
        due("-117 1 0", read(W + ","));
        due("-118 1 1", read(W + ";"));
        due("-116 1 0", read("whistle 300 12  "));

        Edges.says(5, "Returns the index of the statement, from 0; NONE if the text had no error or there was no such call.");
        HoleWhistle x = new HoleWhistle();
        due(-1, x.loadStatement());
        Checks.load(x, "");
        due(0, x.loadStatement());
        Checks.load(x, W + ";limit 9 9");
        due(1, x.loadStatement());
        Checks.load(x, W + ";limit 1 1");
        due(-1, x.loadStatement());
        // As many statements as a text has room for: 17 bytes, then 31 times 12, and 11.
        String many = ";limit  1  1".repeat(31);
        due("-500 1 32", read(W + many + ";limit  1  "));
        due(GOOD, read(W + many + ";limit 1 1"));
    }
}
