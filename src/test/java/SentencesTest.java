import java.io.IOException;
import java.nio.file.Files;
import java.nio.file.Path;
import java.util.List;
import java.util.regex.Matcher;
import java.util.regex.Pattern;
import java.util.stream.Stream;

/**
 * The sentences of the document that name no boundary case, word for word, each with answers that are due by it; and
 * whether each sentence of the document is asked by some test.
 */
public final class SentencesTest {
    private static final String W = "whistle 300 12 30";
    // Nothing in it is round: each division of the document leaves something over. The answers were reckoned by a
    // script of the formulas, those of a hole alone by hand.
    private static final String FIVE = "whistle 451 13 37;hole 187 3;hole 223 7;hole 260 6;hole 295 11;hole 341 14;limit 1 2;cost 2 3 4";
    private static final String TUNE = ";tune 11 8 10 rest 12 6 23";

    public static void main(String[] args) throws IOException {
        numbers();
        descriptions();
        plays();
        lengths();
        pitches();
        loading();
        size();
        holes();
        ofPlays();
        easyPlays();
        changes();
        notes();
        way();
        changesOfTheWay();
        predictions();
        settings();
        tunes();
        playing();
        means();
        output();
        keeping();
        everySentence();
        Checks.end("SentencesTest");
    }

    private static void due(Object want, Object got) { Checks.due(want, got); }

    private static HoleWhistle five() { return Checks.whistle(FIVE); }

    private static HoleWhistle song() { return Checks.whistle(FIVE + TUNE); }

    /** With one hole alone: the sounding lengths with it open, half covered and closed. */
    private static String lengths(String text) { return Edges.each(Checks.whistle(text)::sounding, 0, 1, 2); }

    // ---- the terms ----

    private static void numbers() {
        Edges.says(0, "All numbers are integers, if nothing else is told; divisions of them are rounded down.");
        // Open: 1870 + 281 (845 / 3), then a fourth of 2437; half covered: 1870 + 422 (845 / 2), then a third of 2296.
        due("2760 3057 4588", lengths("whistle 451 13 37;hole 187 3"));
        // Half covered, 14 is as 7 (15 / 2): 3410 + 120 (845 / 7), then an eighth of 1058.
        due("3544 3662 4588", lengths("whistle 451 13 37;hole 341 14"));
        // 13014900 / 162225 cents above 800, 502100 / 171872 above 700.
        due("880 702", Edges.each(Checks.whistle("whistle 451 13 37;hole 187 3")::cents, 0, 1));
        // What is told to be none: 15 / 4, 18 / 51.
        due(3.75, song().meanCost());
        due(18.0f / 51.0f, five().fingering(12));

        Edges.says(0, "Lengths are millimetres, if nothing else is told.");
        HoleWhistle x = five();
        due("451 13 187", x.size(0) + " " + x.size(1) + " " + x.hole(0, 0));
        Edges.says(0, "The sounding length of a fingering is in tenths of a millimetre.");
        due(10 * 451 + 6 * 13, x.sounding(242));
    }

    private static void descriptions() {
        Edges.says(0, "the first one is whistle LENGTH BORE TOLERANCE - 200 to 600, 5 to 20, 5 to 49; it stands only there;");
        Edges.says(0, "the others are hole PLACE SIZE - 1 to LENGTH - 1,");
        due("0 0 -1", Edges.read(W));
        due("-100 1 0", Edges.read("hole 5 5"));
        due("-118 1 1", Edges.read(W + ";whistle 400 13 31"));
        // In each order, and each but the tune as often as there is room.
        HoleWhistle x = Checks.whistle(W + ";tune 3 4;cost 9 9 9;hole 100 5;limit 2 3;hole 200 6;cost 4 5 6;limit 0 1;hole 201 7");
        due("300 12 30 3 0 1 4 5 6 2 0 54 0 0 0 0", Checks.sizes(x));
        due("100 5 200 6 201 7", x.hole(0, 0) + " " + x.hole(0, 1) + " " + x.hole(1, 0) + " " + x.hole(1, 1) + " " + x.hole(2, 0) + " " + x.hole(2, 1));
        due("3 4", Checks.tune(x));
    }

    private static void plays() {
        Edges.says(0, "A play is a fingering, which covers each hole (0 open, 1 half, 2 closed), and a breath, soft or strong; its number is the sum");
        HoleWhistle x = five();
        // 1 * 1 + 2 * 3 + 0 * 9 + 1 * 27 + 2 * 81; and 243 more.
        due("1 2 0 1 2", Edges.each(k -> x.covered(196, k), 0, 1, 2, 3, 4));
        due("1 2 0 1 2", Edges.each(k -> x.covered(439, k), 0, 1, 2, 3, 4));
        x.writePlay(196);
        due("hxohx", Checks.output(x));
        x.writePlay(439);
        due("hxohx+", Checks.output(x));
        due("1200", "" + (x.cents(439) - x.cents(196)));
        due("1 7 7 34 196 439", x.cover(0, 1) + " " + x.cover(1, 2) + " " + x.cover(2, 0) + " " + x.cover(3, 1) + " " + x.cover(4, 2) + " " + x.blow(true));
    }

    private static void lengths() {
        Edges.says(0, "In general it is reckoned from the last hole to the first one: at first it is the whole one;");
        Edges.says(0, "and an own length of 10 * PLACE + 5 * BORE * BORE / strength; if that is less than the length so far,");
        // From 4588: 3544 by hole 4, 3069 by hole 3, 2787 by hole 2, 2404 by hole 1, 2214 by hole 0.
        HoleWhistle x = five();
        due("3544 3069 2787 2404 2214", Edges.each(x::sounding, 80, 26, 8, 2, 0));
        due("3662 3304 3307 2870 3057", Edges.each(x::sounding, 161, 215, 233, 239, 241));
        due("2374 2335 2375 2499", Edges.each(x::sounding, 69, 91, 121, 78));
        // 5 * BORE * BORE first, then by the strength: 245 / 3 is 81, 245 / 2 is 122.
        due("1571 1762 3042", lengths("whistle 300 7 30;hole 100 3"));
        Edges.says(9, "Returns the sounding length of a play (section 2). - `play`: a play Returns the length, in tenths of a millimetre.");
        due("3544 3544 4588 4588", Edges.each(x::sounding, 80, 323, 242, 485));
    }

    private static void pitches() {
        Edges.says(0, "The steps are S0, S1 and so on to S48: S0 is the whole length times 1000, the next one is the one ahead times 94387 / 100000.");
        Edges.says(0, "The pitch of a fingering, blown softly, is 100 * n + 100 * (Sn - L) / (Sn - Sm) cents,");
        // Here S0 to S3 are 3072000, 2899568, 2736815 and 2583197: 2900 tenths of a millimetre are more than S1, 2899 less;
        // 2737 are more than S2, 2736 less.
        due("3072 0", asked(W, 0));
        due("2900 99", asked(W + ";hole 282 11", 0));
        due("2899 100", asked(W + ";hole 280 9", 0));
        due("2898 100", asked(W + ";hole 260 3", 0));
        due("2897 101", asked(W + ";hole 245 2", 0));
        due("2737 199", asked(W + ";hole 221 2", 0));
        due("2736 200", asked(W + ";hole 256 6", 0));
        due("2583 300", asked(W + ";hole 218 3", 0));
        HoleWhistle x = five();
        due("447 696 863 1119 1262", Edges.each(x::cents, 80, 26, 8, 2, 0));
        Edges.says(10, "Returns the pitch of a play (section 2). - `play`: a play Returns the pitch, in cents.");
        due("1140 2340 0 1200", Edges.each(x::cents, 121, 364, 242, 485));
    }

    /** The sounding length of a play and its pitch. */
    private static String asked(String text, int play) {
        HoleWhistle x = Checks.whistle(text);
        return x.sounding(play) + " " + x.cents(play);
    }

    // ---- promises 1 to 15 ----

    private static void loading() {
        Edges.says(2, "- `bytes`: the bytes Returns the new length of the buffer;");
        HoleWhistle x = new HoleWhistle();
        // "whistle ", "300 12 3", "0".
        due("8 16 17", x.append(0x77686973746C6520L) + " " + x.append(0x3330302031322033L) + " " + x.append(0x30L));
        due("0 0 -1", x.load() + " " + x.loadError() + " " + x.loadStatement());
        Edges.says(5, "Returns in which statement the latest call of load() found its error.");
        Checks.load(x, W + ";limit 1 1;cost 1 1 x;limit 9 9");
        due("1 2", x.loadError() + " " + x.loadStatement());
        Checks.load(x, "wistle");
        due("1 0", x.loadError() + " " + x.loadStatement());
        Checks.load(x, W + ";limit 9 9;cost 1 1 x");
        due("2 1", x.loadError() + " " + x.loadStatement());
    }

    private static void size() {
        Edges.says(6, "Returns a number. - `what`: 0 LENGTH, 1 BORE, 2 TOLERANCE, 3 holes, 4 HALVES, 5 CROSSES, 6 MOVE, 7 HALF, 8 BREATH, 9 notes,");
        Edges.says(6, "Returns the number. Throws `IllegalArgumentException` if what is out of range");
        HoleWhistle x = song();
        due("451 13 37 5 1 2 2 3 4 7 1 486 0 0 0 0", Checks.sizes(x));
        x.cover(3, 1);
        x.blow(true);
        x.rewind(4);
        due("451 13 37 5 1 2 2 3 4 7 1 486 270 7 4 3", Checks.sizes(x));
        due("argument argument", Edges.each(x::size, -1, 16));
    }

    private static void holes() {
        Edges.says(7, "Returns a number of a hole. - `hole`: a hole - `what`: 0 its PLACE, 1 its SIZE, "
            + "2 how it is covered by the play at hand: 0 open, 1 half, 2 closed Returns the number.");
        HoleWhistle x = five();
        x.cover(0, 2);
        x.cover(3, 1);
        x.blow(true);
        due("187 223 260 295 341", Edges.each(k -> x.hole(k, 0), 0, 1, 2, 3, 4));
        due("3 7 6 11 14", Edges.each(k -> x.hole(k, 1), 0, 1, 2, 3, 4));
        due("2 0 0 1 0", Edges.each(k -> x.hole(k, 2), 0, 1, 2, 3, 4));
        Edges.says(8, "Returns how a play covers a hole. - `play`: a play - `hole`: a hole Returns 0 open, 1 half, 2 closed.");
        due("0 1 2 0 1", Edges.each(k -> x.covered(102, k), 0, 1, 2, 3, 4));
        due("0 1 2 0 1", Edges.each(k -> x.covered(345, k), 0, 1, 2, 3, 4));
    }

    private static void ofPlays() {
        HoleWhistle x = five();
        Edges.says(11, "Returns the tone that a play plays. - `play`: a play");
        // 447, 696, 863, 1119 and 1262 cents; the same 1200 higher.
        due("-1 7 9 11 -1", Edges.each(x::tone, 80, 26, 8, 2, 0));
        due("-1 19 21 23 -1", Edges.each(x::tone, 323, 269, 251, 245, 243));
        Edges.says(12, "Returns by how much a play is off the nearest multiple of 100 cents. - `play`: a play");
        due("47 -4 -37 19 -38", Edges.each(x::off, 80, 26, 8, 2, 0));
        Edges.says(13, "Counts the holes that a play covers half. - `play`: a play Returns the number.");
        due("0 1 3 5 2", Edges.each(x::halves, 182, 173, 334, 121, 437));
        Edges.says(14, "Counts the holes that a play closes below one that is not closed. - `play`: a play Returns the number.");
        due("2 2 0 4 0 3", Edges.each(x::crosses, 182, 230, 323, 240, 134, 466));
        Edges.says(15, "- `play`: a play Returns true if so.");
        due("true false true false", x.isEasy(221) + " " + x.isEasy(230) + " " + x.isEasy(425) + " " + x.isEasy(466));
    }

    // ---- promises 16 to 25 ----

    private static void easyPlays() {
        HoleWhistle x = five();
        Edges.says(16, "Counts the easy plays of a tone. - `tone`: 0 to 24 Returns the number.");
        due("1 0 0 0 1 0 2 4 4 1 5 23 18", Edges.each(x::plays, 0, 1, 2, 3, 4, 5, 6, 7, 8, 9, 10, 11, 12));
        due("0 0 0 1 0 2 4 4 1 5 23 17", Edges.each(x::plays, 13, 14, 15, 16, 17, 18, 19, 20, 21, 22, 23, 24));
        Edges.says(17, "Returns an easy play of a tone. - `tone`: 0 to 24 - `index`: its place, from 0, by numbers");
        due("23 25 59 185 221 -1", Edges.each(k -> x.playOf(10, k), 0, 1, 2, 3, 4, 5));
        due("266 268 302 428 464 -1", Edges.each(k -> x.playOf(22, k), 0, 1, 2, 3, 4, 5));
        due("1 6 19 219 485 -1", Edges.each(k -> x.playOf(12, k), 0, 1, 2, 16, 17, 18));
        Edges.says(18, "- `tone`: 0 to 24 Returns the play, of several the lowest one; NONE if there is none.");
        due("242 -1 161 215 26 143 8 23", Edges.each(x::truest, 0, 1, 4, 6, 7, 8, 9, 10));
        due("218 485 461 249", Edges.each(x::truest, 11, 12, 23, 24));
        Edges.says(19, "Finds the tones that have no easy play. Returns the sum of 2^tone over them.");
        // 1, 2, 3, 5, 13, 14, 15 and 17: 2 + 4 + 8 + 32 + 8192 + 16384 + 32768 + 131072.
        due(188462, x.lacking());
        Edges.says(22, "Finds the easy play of a tone to which the change from the play at hand costs least. - `tone`: 0 to 24");
        due("242 161 215 26 62 23 2 6 -1 249", Edges.each(x::nearest, 0, 4, 6, 7, 8, 10, 11, 12, 13, 24));
        for (int k = 0; k < 4; k++) x.cover(k, 2);
        due("242 161 215 26 62 23 20 60 -1 303", Edges.each(x::nearest, 0, 4, 6, 7, 8, 10, 11, 12, 13, 24));
        x.blow(true);
        due("242 161 215 26 62 23 20 485 -1 303", Edges.each(x::nearest, 0, 4, 6, 7, 8, 10, 11, 12, 13, 24));
    }

    private static void changes() {
        HoleWhistle x = five();
        Edges.says(20, "Returns what a change from a play to another one costs (section 3). - `one`: a play - `other`: a play Returns the cost.");
        // MOVE 2, HALF 3, BREATH 4.
        due("10 15 4 14 0", x.change(0, 242) + " " + x.change(0, 121) + " " + x.change(242, 485) + " " + x.change(0, 485) + " " + x.change(196, 196));
        due("12 12", x.change(140, 393) + " " + x.change(393, 140));
        Edges.says(21, "Counts the holes that two plays cover differently. - `one`: a play - `other`: a play Returns the number.");
        due("5 5 0 5 0", x.fingers(0, 242) + " " + x.fingers(0, 121) + " " + x.fingers(242, 485) + " " + x.fingers(0, 485) + " " + x.fingers(196, 196));
        due("3 3", x.fingers(140, 393) + " " + x.fingers(393, 140));
    }

    private static void notes() {
        HoleWhistle x = song();
        Edges.says(23, "Returns a note of the tune. - `note`: a note Returns its tone;");
        due("11 8 10 -1 12 6 23", Edges.each(x::note, 0, 1, 2, 3, 4, 5, 6));
        Edges.says(24, "Returns true if so.");
        Edges.says(25, "Finds the first note that has no easy play and is no rest.");
        due("true -1", x.isPlayable() + " " + x.firstLacking());
        x.setNote(6, 13);
        due("false 6", x.isPlayable() + " " + x.firstLacking());
        x.setNote(2, 5);
        due("false 2", x.isPlayable() + " " + x.firstLacking());
        x.setNote(2, -1);
        due("false 6", x.isPlayable() + " " + x.firstLacking());
    }

    // ---- promises 26 to 35 ----

    private static void way() {
        HoleWhistle x = song();
        Edges.says(26, "Returns the cost of the easiest way of the tune (section 3).");
        due(15, x.cost());
        Edges.says(27, "Returns the play of a note in the easiest way. - `note`: a note");
        due("56 62 59 -1 195 215 452", Edges.each(x::wayPlay, 0, 1, 2, 3, 4, 5, 6));
        Edges.says(28, "Returns what the change to a note costs in the easiest way. - `note`: a note");
        due("0 2 3 0 0 4 6", Edges.each(x::wayChange, 0, 1, 2, 3, 4, 5, 6));
        x.setCosts(1, 1, 9);
        due("14: 56/0 62/1 59/1 -1/0 195/0 215/2 452/10", Edges.way(x));
        x.setCosts(9, 1, 0);
        due("12: 61/0 62/1 59/1 -1/0 485/0 215/1 452/9", Edges.way(x));
        x.setCosts(1, 9, 0);
        due("13: 56/0 62/1 59/9 -1/0 195/0 215/2 452/1", Edges.way(x));
    }

    private static void changesOfTheWay() {
        HoleWhistle x = song();
        Edges.says(29, "Finds the note to which the change costs most in the easiest way, by wayChange(int)");
        due(6, x.hardest());
        x.dropNote(6);
        due(5, x.hardest());
        x.dropNote(5);
        due(2, x.hardest());
        x.dropNote(2);
        due(1, x.hardest());
        Edges.says(30, "- `hole`: a hole Returns the number;");
        due("1 3 1 0 0", Edges.each(song()::moved, 0, 1, 2, 3, 4));
        Edges.says(31, "Finds the holes that are covered alike by all plays of the easiest way, across rests, too. Returns the sum of 2^hole over them;");
        // 56, 62 and 59 are xooxo, xxoxo and xhoxo: all but hole 1. Behind the rest there are oxohx, xxxhx and xoxhx+.
        due(0, song().idle());
        due(1 + 4 + 8 + 16, Checks.whistle(FIVE + ";tune 11 8 10 rest").idle());
    }

    private static void predictions() {
        HoleWhistle x = song();
        Edges.says(32, "Predicts the cost of the easiest way if all tones were higher by some semitones (lower, if negative). - `by`: -12 to 12");
        due("-1 28 -1 15 -1", Edges.each(x::costBy, -12, -2, -1, 0, 1));
        HoleWhistle up = Checks.whistle(FIVE + ";tune 13 10 12 rest 14 8");
        HoleWhistle at = Checks.whistle(FIVE + ";tune 11 8 10 rest 12 6");
        due("9 -1 9 9", at.cost() + " " + up.cost() + " " + up.costBy(-2) + " " + at.costBy(12));
        Edges.says(34, "Predicts the cost of the easiest way with other limits. - `halves`: 0 to 2 - `crosses`: 0 to 3");
        due("-1 -1 -1 -1", Edges.each(k -> x.costWith(0, k), 0, 1, 2, 3));
        due("-1 19 15 15", Edges.each(k -> x.costWith(1, k), 0, 1, 2, 3));
        due("-1 19 15 15", Edges.each(k -> x.costWith(2, k), 0, 1, 2, 3));
        due("1 2 15", x.size(4) + " " + x.size(5) + " " + x.cost());
    }

    // ---- promises 36 to 48 ----

    private static void settings() {
        HoleWhistle x = song();
        Edges.says(36, "- `hole`: a hole - `place`: 1 to LENGTH - 1 - `size`: 2 to 15 Returns the previous PLACE;");
        due("341 450 260", x.setHole(4, 450, 2) + " " + x.setHole(4, 296, 15) + " " + x.setHole(2, 224, 6));
        due("187 3 223 7 224 6 295 11 296 15", x.hole(0, 0) + " " + x.hole(0, 1) + " " + x.hole(1, 0) + " " + x.hole(1, 1) + " " + x.hole(2, 0) + " "
            + x.hole(2, 1) + " " + x.hole(3, 0) + " " + x.hole(3, 1) + " " + x.hole(4, 0) + " " + x.hole(4, 1));
        due("argument -3 -3 argument", Edges.each(k -> x.setHole(1, k, 7), 0, 1, 450, 451));
        Edges.says(37, "Sets HALVES and CROSSES (an action). - `halves`: 0 to 2 - `crosses`: 0 to 3 Returns 10 times the previous HALVES and the previous CROSSES, added.");
        due("12 3 20 3 0", x.setLimits(0, 3) + " " + x.setLimits(2, 0) + " " + x.setLimits(0, 3) + " " + x.size(5) + " " + x.size(4));
        Edges.says(38, "Sets TOLERANCE (an action). - `tolerance`: 5 to 49 Returns the previous one.");
        due("37 5 49 6", x.setTolerance(5) + " " + x.setTolerance(49) + " " + x.setTolerance(6) + " " + x.size(2));
        due("8 7 49 6 5 37", x.size(15) + " " + x.undo() + " " + x.size(2) + " " + x.undo() + " " + x.undo() + " " + x.size(2));
        Edges.says(39, "Sets MOVE, HALF and BREATH (an action). - `move`: 1 to 9 - `half`: 1 to 9 - `breath`: 0 to 9 Returns the previous MOVE.");
        due("2 1 9 1 9 0", x.setCosts(1, 1, 0) + " " + x.setCosts(9, 9, 9) + " " + x.setCosts(1, 9, 0) + " " + x.size(6) + " " + x.size(7) + " " + x.size(8));
        due("7 9 9 9", x.undo() + " " + x.size(6) + " " + x.size(7) + " " + x.size(8));
    }

    private static void tunes() {
        HoleWhistle x = five();
        Edges.says(40, "Adds a note behind all others (an action). - `tone`: 0 to 24, or NONE for a rest Returns its number;");
        due("0 1 2 3", x.addNote(7) + " " + x.addNote(-1) + " " + x.addNote(24) + " " + x.addNote(0));
        due("7 r 24 0", Checks.tune(x));
        due("3 7 r 24", x.undo() + " " + Checks.tune(x));
        Edges.says(41, "Sets a note (an action). - `note`: a note - `tone`: 0 to 24, or NONE for a rest Returns the previous tone.");
        due("-1 24 5", x.setNote(1, 5) + " " + x.setNote(2, -1) + " " + x.setNote(1, 6));
        due("7 6 r", Checks.tune(x));
        due("5 7 5 r", x.undo() + " " + Checks.tune(x));
        Edges.says(42, "Takes a note away (an action); the numbers of those behind become one less,");
        Edges.says(42, "- `note`: a note Returns how many there are then.");
        due("2 5 r", x.dropNote(0) + " " + Checks.tune(x));
        due("1 5 0 ", x.dropNote(1) + " " + Checks.tune(x) + " " + x.dropNote(0) + " " + Checks.tune(x));
        due("7 5 6 5 r", x.undo() + " " + Checks.tune(x) + " " + x.undo() + " " + Checks.tune(x));
        Edges.says(43, "- `from`: a note - `to`: a note Returns how many notes there are then;");
        due("3 5 r r", x.repeat(1, 1) + " " + Checks.tune(x));
        due("5 5 r 5 r r", x.repeat(0, 1) + " " + Checks.tune(x));
        due("7 5 r r", x.undo() + " " + Checks.tune(x));
        Edges.says(44, "Makes all tones of the tune higher by some semitones (an action). - `by`: -12 to 12");
        due("1 17 r r", x.higher(12) + " " + Checks.tune(x));
        due("1 12 r r", x.higher(-5) + " " + Checks.tune(x));
        due("7 17 r r", x.undo() + " " + Checks.tune(x));
    }

    private static void playing() {
        HoleWhistle x = song();
        Edges.says(45, "Covers a hole in the play at hand (an action). - `hole`: a hole - `how`: 0 open, 1 half, 2 closed");
        due("54 55 217 2", x.cover(3, 2) + " " + x.cover(0, 1) + " " + x.cover(4, 2) + " " + x.hole(4, 2));
        due("7 3", x.size(13) + " " + x.size(15));
        Edges.says(46, "Blows strongly or softly (an action). - `strong`: whether it is strong");
        due("460 11 217 15 5", x.blow(true) + " " + x.size(13) + " " + x.blow(false) + " " + x.size(13) + " " + x.size(15));
        due("4 460", x.undo() + " " + x.size(12));
        Edges.says(47, "Plays the note of the tune at its place (an action):");
        Edges.says(47, "Returns the play at hand then;");
        Edges.says(47, "the first play of the easiest one is the play at hand then (what that change costs counts, behind a rest, too); a rest changes nothing.");
        due("2/2 62/6 59/9 59/9 60/14 233/21 470/27 at 0", steps(song()));
        // From hooxx strongly on, and 11 ahead.
        due("56/20 62/22 59/25 59/25 60/30 233/37 470/43 at 0", steps(x));
        Edges.says(48, "Sets the place in the tune (an action). - `place`: a note, or 0");
        HoleWhistle y = song();
        due("0 3 6 5 3", y.rewind(3) + " " + y.rewind(6) + " " + y.rewind(5) + " " + y.size(14) + " " + y.size(15));
    }

    /** What each step of the tune answers, and what all changes cost then. */
    private static String steps(HoleWhistle x) {
        StringBuilder b = new StringBuilder();
        for (int k = 0; k < 7; k++) b.append(x.step()).append('/').append(x.size(13)).append(' ');
        return b.append("at ").append(x.size(14)).toString();
    }

    // ---- promises 49 to 56 ----

    private static void means() {
        Edges.says(49, "Returns the mean cost of a change of the easiest way.");
        due(15.0 / 4.0, song().meanCost());
        due(5.0 / 2.0, Checks.whistle(FIVE + ";tune 11 8 10").meanCost());
        Edges.says(50, "Returns which part of all plays of a tone is easy. - `tone`: 0 to 24");
        // Of 10 there are 31, of 11 52, of 12 51, of 24 50.
        due("" + 5.0f / 31.0f + " " + 23.0f / 52.0f + " " + 18.0f / 51.0f + " " + 17.0f / 50.0f,
            five().fingering(10) + " " + five().fingering(11) + " " + five().fingering(12) + " " + five().fingering(24));
    }

    private static void output() {
        HoleWhistle x = song();
        Edges.says(51, "- `play`: a play Returns the length of the output.");
        due("5 ohxoh", x.writePlay(102) + " " + Checks.output(x));
        due("6 ohxoh+", x.writePlay(345) + " " + Checks.output(x));
        Edges.says(52, "with a space between two. Returns the length of the output.");
        due("17 11 8 10 r 12 6 23", x.writeTune() + " " + Checks.output(x));
        Edges.says(53, "Returns a byte of the output. - `index`: the index, from 0");
        due("49 49 32 56 32 49 48 32 114", Edges.each(x::outputByte, 0, 1, 2, 3, 4, 5, 6, 7, 8));
    }

    private static void keeping() {
        HoleWhistle x = song();
        String first = Edges.picture(x);
        Edges.says(55, "- `slot`: 0 or 1 Returns the number of notes.");
        due(7, x.saveSnapshot(0));
        x.dropNote(0);
        x.setHole(4, 400, 2);
        due(6, x.saveSnapshot(1));
        Edges.says(56, "- `slot`: 0 or 1 Returns the number of notes then;");
        due(7, x.restoreSnapshot(0));
        due(first, Edges.picture(x));
        due("6 400", x.restoreSnapshot(1) + " " + x.hole(4, 0));
    }

    // ---- whether each sentence is asked ----

    private static final Pattern SAYS = Pattern.compile("Edges\\.says\\((\\d+),\\s*((?:\"(?:[^\"\\\\]|\\\\.)*\"[\\s+]*)+)\\)");
    private static final Pattern TEXT = Pattern.compile("\"((?:[^\"\\\\]|\\\\.)*)\"");

    /** What is left of the document without what the tests quote, headings and signatures. */
    private static void everySentence() throws IOException {
        Checks.part("each sentence of the document has a test");
        String[] parts = Edges.parts();
        StringBuilder[] left = new StringBuilder[parts.length];
        for (int k = 0; k < parts.length; k++) left[k] = new StringBuilder(parts[k]);
        due(57, parts.length);
        for (Path file : sources()) {
            Matcher says = SAYS.matcher(Files.readString(file));
            while (says.find()) strike(left, parts, Integer.parseInt(says.group(1)), joined(says.group(2)));
        }
        // FaceTest asks for the face; what is not promised has no answer.
        strike(left, parts, 0, parts[0].substring(0, parts[0].indexOf("All numbers are integers,")));
        strike(left, parts, 56, parts[56].substring(parts[56].indexOf("## Not promised")));
        String[] heads = {"1. Descriptions", "2. Plays", "3. Changes and ways", "4. Actions and errors", "The constants:"};
        for (String head : heads) strike(left, parts, 0, head);
        for (int k = 1; k < parts.length; k++) strike(left, parts, k, parts[k].substring(0, parts[k].indexOf("`: ") + 2));
        for (int k = 0; k < parts.length; k++) due(k + ":", k + ":" + left[k].toString().replaceAll("[#_ -]", ""));
    }

    private static List<Path> sources() throws IOException {
        try (Stream<Path> files = Files.list(Path.of("src/test/java"))) {
            return files.filter(f -> f.toString().endsWith("Test.java")).toList();
        }
    }

    private static String joined(String quotes) {
        StringBuilder b = new StringBuilder();
        Matcher text = TEXT.matcher(quotes);
        while (text.find()) b.append(text.group(1).replace("\\\"", "\""));
        return b.toString();
    }

    /** Each place where the words stand in this part. */
    private static void strike(StringBuilder[] left, String[] parts, int part, String words) {
        for (int at = parts[part].indexOf(words); at >= 0; at = parts[part].indexOf(words, at + 1)) {
            for (int k = at; k < at + words.length(); k++) left[part].setCharAt(k, '_');
        }
    }
}
