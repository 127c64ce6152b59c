/** The boundary cases that section 3 and promises 23 to 35 and 49 name, each with the nearest call on the other side. */
public final class WayEdgesTest {
    private static final int MIN = Integer.MIN_VALUE;
    private static final int MAX = Integer.MAX_VALUE;
    private static final String W = "whistle 300 12 30";
    // Its easy plays: 0: 26; 5: 17; 6: 8; 7: 23; 8: 20; 9: 2, 11; 10: 7; 11: 1, 19; 12: 0, 3, 9, 18, 21, 53; 17: 44;
    // 18: 35; 19: 50; 20: 47; 21: 29, 38; 22: 34; 23: 28, 46; 24: 27, 30, 36, 45, 48; none of 1 to 4 and of 13 to 16.
    private static final String THREE = W + ";hole 140 8;hole 170 9;hole 200 10";
    private static final String SONG = "0 6 9 12 rest 12 0";

    public static void main(String[] args) {
        changes();
        rests();
        order();
        note();
        playable();
        cost();
        wayPlay();
        wayChange();
        hardest();
        moved();
        idle();
        costBy();
        bestBy();
        costWith();
        level();
        predictions();
        meanCost();
        Checks.end("WayEdgesTest");
    }

    private static void due(Object want, Object got) { Checks.due(want, got); }

    private static HoleWhistle three(String tune) { return Checks.whistle(THREE + ";tune " + tune); }

    private static String way(String tune) { return Edges.way(three(tune)); }

    private static void changes() {
        Edges.says(0, "A change from a play to another one costs, for each hole that they cover differently, HALF if one of both covers it half, "
            + "otherwise MOVE; and BREATH if their breaths differ.");
        HoleWhistle x = Checks.whistle(THREE + ";cost 3 5 7");
        due("0 5 3 5 3", x.change(0, 0) + " " + x.change(0, 1) + " " + x.change(0, 2) + " " + x.change(1, 2) + " " + x.change(2, 0));
        due("0 0 7 12 10 5", x.change(1, 1) + " " + x.change(13, 13) + " " + x.change(0, 27) + " " + x.change(0, 28) + " " + x.change(29, 0)
            + " " + x.change(27, 28));
        due("9 15 15 22 0", x.change(0, 26) + " " + x.change(0, 13) + " " + x.change(13, 26) + " " + x.change(26, 40) + " " + x.change(53, 53));
        x.setCosts(3, 5, 0);
        due("0 0 5", x.change(0, 27) + " " + x.change(53, 26) + " " + x.change(0, 28));
    }

    private static void rests() {
        Edges.says(0, "A way of the tune has an easy play of its tone for each note that is no rest. "
            + "Its cost is the sum over all changes from a note to the next one, if both are no rests.");
        due("0:", Edges.way(Checks.whistle(THREE)));
        due("0: 0/0", way("12"));
        due("0: -1/0", way("rest"));
        due("1: 53/0 26/1", way("12 0"));
        due("0: 0/0 -1/0 26/0", way("12 rest 0"));
        due("0: 0/0 -1/0 -1/0 26/0", way("12 rest rest 0"));
        due("1: -1/0 53/0 26/1 -1/0", way("rest 12 0 rest"));
        due("2: 26/0 8/1 26/1", way("0 6 0"));
        due("1: 26/0 8/1 -1/0 26/0", way("0 6 rest 0"));
        due("4: 26/0 8/1 2/1 0/1 -1/0 53/0 26/1", way(SONG));
    }

    private static void order() {
        Edges.says(0, "The easiest way is the one with the least cost; of several the one whose play of the first note (that is no rest) is the lowest, "
            + "of these that whose second one is, and so on.");
        // Less cost goes ahead of a lower play, by one.
        due("1: 53/0 26/1", way("12 0"));
        due("2: 0/0 2/1 0/1", way("12 9 12"));
        due("0: 0/0 0/0", way("12 12"));
        // By 1 from 53 to 26, by 3 from 0: with a BREATH of 2 18 is as dear as 53, and lower; with 1 it is not.
        due("2: 18/0 26/2", Edges.way(Checks.whistle(THREE + ";cost 1 2 2;tune 12 0")));
        due("1: 53/0 26/1", Edges.way(Checks.whistle(THREE + ";cost 1 2 1;tune 12 0")));
        // The plays of 4 are 5, 6, of 5 are 0 to 3: 5 3 and 6 0 cost 1. The first note decides, also behind a rest.
        String two = W + ";hole 218 6;hole 223 13;tune ";
        due("1: 5/0 3/1", Edges.way(Checks.whistle(two + "4 5")));
        due("1: -1/0 5/0 3/1", Edges.way(Checks.whistle(two + "rest 4 5")));
        due("1: 0/0 6/1", Edges.way(Checks.whistle(two + "5 4")));
        due("0: 5/0 -1/0 0/0", Edges.way(Checks.whistle(two + "4 rest 5")));
        // 6 0 47, 6 3 32 and 6 18 47 cost 4: the first ones are alike, the second one decides.
        due("4: 6/0 0/1 47/3", Edges.way(Checks.whistle(W + ";hole 79 11;hole 131 11;hole 182 9;tune 20 21 24")));
        // 29 32 3 and 29 35 0 cost 4, so again.
        due("4: 29/0 32/2 3/2", Edges.way(Checks.whistle(W + ";hole 215 3;hole 233 4;hole 267 11;tune 15 14 4")));
        // 47 19 46, 47 53 34 and 47 53 46 cost 4; from 32, which is lower, all cost more.
        due("4: 47/0 19/3 46/1", Edges.way(Checks.whistle(W + ";hole 132 15;hole 243 11;hole 245 3;tune 15 12 24")));
        // With a rest in between, the lowest play of each.
        due("0: 1/0 -1/0 28/0", Edges.way(Checks.whistle(W + ";hole 132 15;hole 243 11;hole 245 3;tune 12 rest 24")));
    }

    private static void note() {
        Edges.says(23, "Throws `IndexOutOfBoundsException` if there is no such note");
        due("index 0 0 index index index", Edges.each(three(SONG)::note, -1, 0, 6, 7, MIN, MAX));
        due("index index", Edges.each(new HoleWhistle()::note, -1, 0));
        Edges.says(23, "Returns its tone; NONE for a rest.");
        due("12 -1 12", Edges.each(three(SONG)::note, 3, 4, 5));
    }

    private static void playable() {
        Edges.says(24, "Tells whether each note of the tune that is no rest has an easy play.");
        Edges.says(25, "Returns the note; NONE if there is none.");
        due("true -1", playable(Checks.whistle(THREE)));
        due("true -1", playable(three("rest")));
        due("true -1", playable(three("12 0")));
        due("false 0", playable(three("13 0")));
        due("false 1", playable(three("12 1")));
        due("false 1", playable(three("rest 1")));
        due("false 1", playable(three("12 1 13 0")));
        due("true -1", playable(three("12 rest rest 0")));
        // 4 has no play at all, 5 one with a hole half covered: easy with 1, not with 0.
        due("false 0", playable(three("4")));
        due("true -1", playable(three("5")));
        due("false 0", playable(three("5;limit 0 3")));
        due("true -1", playable(three("5;limit 1 0")));
        due("false 39", playable(three("(0 6)9 0 6 (6 12)9 0 13")));
    }

    private static String playable(HoleWhistle x) { return x.isPlayable() + " " + x.firstLacking(); }

    private static void cost() {
        Edges.says(26, "Returns the cost; NONE if it is not playable.");
        due("0 0 0 0", new HoleWhistle().cost() + " " + three("rest").cost() + " " + three("0").cost() + " " + three("0 0").cost());
        due("1 -1", three("0 6").cost() + " " + three("0 13").cost());
        due("-1 -1", three("13").cost() + " " + three("rest 13").cost());
        due("0 -1", three("12 rest 9").cost() + " " + three("12 rest 13").cost());
        due("39 78", three("(0 12)9 (0 12)9 (0 12)2").cost() + " " + three("(0 6 9 6)9 0 6 9 6;cost 2 9 9").cost());
    }

    private static void wayPlay() {
        HoleWhistle x = three(SONG);
        Edges.says(27, "Throws `IndexOutOfBoundsException` if there is no such note");
        due("index 26 26 index index index", Edges.each(x::wayPlay, -1, 0, 6, 7, MIN, MAX));
        due("index index", Edges.each(new HoleWhistle()::wayPlay, -1, 0));
        Edges.says(27, "Returns the play; NONE for a rest, or if the tune is not playable.");
        due("0 -1 53", Edges.each(x::wayPlay, 3, 4, 5));
        x.setNote(6, 13);
        due("index -1 -1 -1 index", Edges.each(x::wayPlay, -1, 0, 4, 6, 7));
        x.setNote(6, 12);
        due("26 -1 0", Edges.each(x::wayPlay, 0, 4, 6));
    }

    private static void wayChange() {
        HoleWhistle x = three(SONG);
        Edges.says(28, "Throws `IndexOutOfBoundsException` if there is no such note");
        due("index 0 1 index index index", Edges.each(x::wayChange, -1, 0, 6, 7, MIN, MAX));
        due("index index", Edges.each(new HoleWhistle()::wayChange, -1, 0));
        Edges.says(28, "Returns the cost; 0 for the first note, a rest, and a note behind a rest; NONE if the tune is not playable.");
        due("0 1 1 1 0 0 1", Edges.each(x::wayChange, 0, 1, 2, 3, 4, 5, 6));
        due("0 0 1", Edges.each(three("rest 0 6")::wayChange, 0, 1, 2));
        x.setNote(6, 13);
        due("-1 -1 -1 -1 -1 -1 -1", Edges.each(x::wayChange, 0, 1, 2, 3, 4, 5, 6));
    }

    private static void hardest() {
        Edges.says(29, "(0 for the first note, a rest and a note behind a rest).");
        Edges.says(29, "Returns the note, of several the first one; NONE if the tune is not playable or has no notes.");
        due("-1 -1", Checks.whistle(THREE).hardest() + " " + three("13").hardest());
        due("0 0 0", three("12").hardest() + " " + three("rest").hardest() + " " + three("rest rest").hardest());
        due("0 1 1", three("12 12").hardest() + " " + three("0 6").hardest() + " " + three("0 6 0").hardest());
        // All holes move behind the rest, but that is no change; the changes ahead of it and behind it cost 1, then 3.
        due(1, three("12 9 rest 0 6").hardest());
        due(4, three("12 12 rest 0 6").hardest());
        due("0 0", three("12 rest 0").hardest() + " " + three("rest 0 rest 6").hardest());
        due(2, three("0 6 7 6 7").hardest());
        due(3, three("0 6 9 7 9").hardest());
        due(-1, three("0 6 7 13").hardest());
    }

    private static void moved() {
        HoleWhistle x = three(SONG);
        Edges.says(30, "Throws `IndexOutOfBoundsException` if there is no such hole");
        due("index 1 1 index index index", Edges.each(x::moved, -1, 0, 2, 3, MIN, MAX));
        due("index index", Edges.each(new HoleWhistle()::moved, -1, 0));
        due("index -1 -1 index", Edges.each(three("0 13")::moved, -1, 0, 2, 3));
        Edges.says(30, "Counts the changes of the easiest way (section 3) in which a hole comes to be covered differently.");
        due("0 0 1", Edges.each(three("0 6")::moved, 0, 1, 2));
        due("0 0 0", Edges.each(three("0 rest 6")::moved, 0, 1, 2));
        due("0 0 2", Edges.each(three("0 6 0")::moved, 0, 1, 2));
        due("0 0 0", Edges.each(three("0 12")::moved, 0, 1, 2));
        due("0 2 2", Edges.each(three("6 7 6")::moved, 0, 1, 2));
        Edges.says(30, "Returns the number; NONE if the tune is not playable.");
        due("0 0 -1", three("rest").moved(0) + " " + Checks.whistle(THREE).moved(0) + " " + three("1").moved(0));
    }

    private static void idle() {
        Edges.says(31, "Finds the holes that are covered alike by all plays of the easiest way, across rests, too.");
        due("7 3 3", three("0 0").idle() + " " + three("0 6").idle() + " " + three("0 rest 6").idle());
        due("7 6 1", three("0 rest 0").idle() + " " + three("12 rest 9").idle() + " " + three("6 7").idle());
        due("3 7 0", three("0 6 0").idle() + " " + three("0 12").idle() + " " + three("0 12 rest 12").idle());
        Edges.says(31, "Returns the sum of 2^hole over them; NONE if the tune is not playable; all holes without a note that is no rest.");
        due("7 7 7 0", Checks.whistle(THREE).idle() + " " + three("rest").idle() + " " + three("0").idle() + " " + new HoleWhistle().idle());
        due("-1 -1", three("13").idle() + " " + three("rest 13").idle());
        due(127, Checks.whistle(W + ";hole 1 2;hole 2 2;hole 3 2;hole 4 2;hole 5 2;hole 6 2;hole 7 2;tune 0 12 rest 0").idle());
    }

    private static void costBy() {
        Edges.says(32, "Throws `IllegalArgumentException` if by is out of range");
        due("argument -1 4 4 argument argument argument", Edges.each(three(SONG)::costBy, -13, -12, 0, 12, 13, MIN, MAX));
        due("argument 0 0 argument", Edges.each(new HoleWhistle()::costBy, -13, -12, 12, 13));
        Edges.says(32, "Returns the cost (0 without notes that are no rests); NONE if it would not be playable, or a tone would be below 0 or above 24.");
        due("0 0 0", Edges.each(three("rest rest")::costBy, -12, 0, 12));
        // A tone of -1 is no rest.
        due("0 -1", Edges.each(three("0")::costBy, 0, -1));
        due("0 -1", Edges.each(three("rest 6")::costBy, -6, -7));
        due("0 -1 0", Edges.each(three("12 rest 12")::costBy, -12, -11, 12));
        due("0 -1 0", Edges.each(three("24")::costBy, 0, 1, -12));
        due("-1 0 -1", Edges.each(three("23")::costBy, 2, 1, 12));
        due("0 -1 0", Edges.each(three("13")::costBy, -1, 0, 4));
        due("-1 -1 0", Edges.each(three("1")::costBy, -2, 0, -1));
        // One of two tones is out of range, or lacking.
        due("-1 1 -1", Edges.each(three("0 6")::costBy, -1, 0, 1));
        due("1 1 -1", Edges.each(three("12 18")::costBy, -12, 0, 7));
        due("5 2", Edges.each(three("12 18")::costBy, 5, 6));
    }

    private static void bestBy() {
        Edges.says(33, "Finds by how many semitones, -6 to 6, the tune would have to be higher so that costBy(int) is least.");
        // 6 is the only one that does, and 7, which is too far; so below.
        due("6 1", bestBy(three("2 rest 6 rest 11"), 6));
        due("-99 1", bestBy(three("1 rest 5 rest 10"), 7));
        due("-6 1", bestBy(three("6 rest 14 rest 23"), -6));
        due("-99 1", bestBy(three("7 rest 15 rest 24"), -7));
        due("-6 1", bestBy(Checks.whistle(W + ";tune 18"), -6));
        due("-99 1", bestBy(Checks.whistle(W + ";tune 19"), -7));

        Edges.says(33, "Returns the semitones, of several the one nearest to 0, then the higher one; NOTHING if each is NONE.");
        due(0, three(SONG).bestBy());
        due(0, three("9").bestBy());
        due(6, Checks.whistle(W + ";tune 6").bestBy());
        due(-5, Checks.whistle(W + ";tune 5").bestBy());
        due(5, Checks.whistle(W + ";tune 7").bestBy());
        due("3 1 1 1", three("9 10").costBy(0) + " " + three("9 10").costBy(-1) + " " + three("9 10").costBy(1) + " " + three("9 10").bestBy());
        due("1 3 2 0", three("8 9").costBy(0) + " " + three("8 9").costBy(1) + " " + three("8 9").costBy(-1) + " " + three("8 9").bestBy());
        // With the limits 0 and 0 there are 0, 6, 9, 12, 18, 21 and 24.
        due("-1 1 3 2", bestWithin("7") + " " + bestWithin("8") + " " + bestWithin("3") + " " + bestWithin("4"));
        due("-2 -1 -3", bestWithin("14") + " " + bestWithin("13") + " " + bestWithin("12 rest 15"));
        due("-99 0 0 0", Checks.whistle(W + ";tune 0 1").bestBy() + " " + new HoleWhistle().bestBy() + " " + three("rest").bestBy() + " " + three("0").bestBy());
    }

    /** What is best, and 1 if by these semitones it would be playable. */
    private static String bestBy(HoleWhistle x, int by) { return x.bestBy() + " " + (x.costBy(by) >= 0 ? 1 : 0); }

    private static int bestWithin(String tune) { return three(tune + ";limit 0 0").bestBy(); }

    private static void costWith() {
        HoleWhistle x = three("0 7");
        Edges.says(34, "Throws `IllegalArgumentException` if halves or crosses is out of range");
        due("argument -1 2 argument argument argument", Edges.each(k -> x.costWith(k, 3), -1, 0, 2, 3, MIN, MAX));
        due("argument -1 2 argument argument argument", Edges.each(k -> x.costWith(2, k), -1, 0, 3, 4, MIN, MAX));
        Checks.noArgument(() -> x.costWith(-1, 4), () -> x.costWith(3, -1));
        Edges.says(34, "Returns the cost; NONE if it would not be playable.");
        due("-1 -1 2 2", x.costWith(0, 1) + " " + x.costWith(1, 0) + " " + x.costWith(1, 1) + " " + x.costWith(2, 1));
        x.setLimits(0, 0);
        due("-1 -1 2", x.cost() + " " + x.costWith(0, 0) + " " + x.costWith(1, 1));
        due("0 0 0", new HoleWhistle().costWith(0, 0) + " " + three("rest").costWith(0, 0) + " " + three("0").costWith(0, 0));
    }

    private static int level(String whistle, String tune) { return Checks.whistle(whistle + ";tune " + tune).level(); }

    private static void level() {
        Edges.says(35, "Finds the least limits with which the tune is playable: of the least HALVES and CROSSES together those with fewer HALVES.");
        // With 0 HALVES and 1 CROSSES or the other way round; with 0 and 2, 1 and 1, or 2 and 0; with 0 and 3, 1 and 2, or 2 and 1.
        String four = "whistle 300 12 5;hole 123 4;hole 146 12;hole 159 10;hole 276 11";
        String three = W + ";hole 70 10;hole 123 7;hole 185 11";
        String other = W + ";hole 120 9;hole 139 7;hole 163 11;hole 240 5";
        due("1 2 3", level(four, "13") + " " + level(three, "20") + " " + level(other, "13"));
        // With 1 and 1 or with 2 and 0; with 0 and 2 or with 1 and 0: the latter is less together; so with 0 and 3 or 2 and 0.
        due(11, level(four, "11"));
        due(10, level("whistle 300 12 10;hole 109 4;hole 139 6;hole 220 15;hole 247 15", "14"));
        due(20, level("whistle 300 12 5;hole 101 12;hole 200 2;hole 215 7;hole 269 10;hole 284 5", "16"));
        // One tone asks for 0 and 1, one for 2 and 0: both for 2 and 1.
        String few = "whistle 300 12 10;hole 86 13;hole 99 3;hole 161 9";
        due("0 1 20 21 21", level(few, "9") + " " + level(few, "20") + " " + level(few, "19") + " " + level(few, "20 19") + " " + level(few, "19 rest 20 9"));

        Edges.says(35, "Returns 10 * HALVES + CROSSES; NONE if there are none.");
        due(3, level("whistle 300 12 10;hole 79 3;hole 119 14;hole 162 3;hole 184 15", "24"));
        due(-1, level("whistle 300 12 10;hole 86 2;hole 168 6;hole 252 3;hole 260 7;hole 280 9", "9"));
        due(-1, level("whistle 300 12 5;hole 96 7;hole 127 10;hole 152 4;hole 243 11", "16"));
        due(23, level("whistle 300 12 30;hole 87 4;hole 96 2;hole 103 12;hole 176 10;hole 281 10", "11"));
        due(23, level("whistle 300 12 5;hole 96 6;hole 99 12;hole 151 10;hole 164 3;hole 191 6", "14"));
        due("-1 -1", level(THREE, "1") + " " + level(THREE, "0 1"));
        due("0 0 0", new HoleWhistle().level() + " " + level(THREE, "rest") + " " + level(THREE, "0"));
        // The limits at hand do not count.
        due("11 11", level(THREE + ";limit 0 0", "8 5") + " " + level(THREE + ";limit 2 3", "8 5"));
    }

    private static void predictions() {
        Edges.says(0, "Predictions change nothing.");
        foretells(4, x -> x.costBy(12));
        foretells(-1, x -> x.costBy(-1));
        foretells(4, x -> x.costWith(2, 3));
        foretells(4, x -> x.costWith(0, 0));
        foretells(0, HoleWhistle::bestBy);
        foretells(0, HoleWhistle::level);
        foretells(IllegalArgumentException.class, x -> x.costBy(13));
        foretells(IllegalArgumentException.class, x -> x.costWith(3, 0));
    }

    /** Also behind it the way is the one of the tune and the limits at hand, and both actions can be taken back. */
    private static void foretells(Object want, Edges.Doing call) {
        HoleWhistle x = three(SONG);
        x.cover(1, 1);
        x.rewind(3);
        x.writeTune();
        Edges.idleCall(x, want, call);
        due("4: 26/0 8/1 2/1 0/1 -1/0 53/0 26/1", Edges.way(x));
        due("2 1 0 0 0", x.size(15) + " " + x.undo() + " " + x.undo() + " " + x.size(12) + " " + x.size(14));
    }

    private static void meanCost() {
        Edges.says(49, "Returns (double) (cost()) / (double) (the changes: notes that are no rests and not the first note, and not behind a rest); "
            + "0.0 without any, or if it is not playable.");
        due("0.0 0.0 0.0", new HoleWhistle().meanCost() + " " + three("0").meanCost() + " " + three("rest").meanCost());
        due("1.0 0.0 0.0", three("0 6").meanCost() + " " + three("0 rest 6").meanCost() + " " + three("rest 6").meanCost());
        due("1.0 0.0", three("0 6 rest 12").meanCost() + " " + three("0 6 rest 13").meanCost());
        due("0.0 0.5", three("12 12").meanCost() + " " + three("12 0 0").meanCost());
        due("" + 1.0 / 3.0, "" + three("12 rest 12 0 0 0 rest").meanCost());
        due("0.0 0.0", three("13 0").meanCost() + " " + three("0 0 13").meanCost());
    }
}
