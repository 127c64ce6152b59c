/** The boundary cases that section 2 and promises 6 to 22 and 50 name, each with the nearest call on the other side. */
public final class PlayEdgesTest {
    private static final int MIN = Integer.MIN_VALUE;
    private static final int MAX = Integer.MAX_VALUE;
    private static final String W = "whistle 300 12 30";
    private static final String THREE = W + ";hole 140 8;hole 170 9;hole 200 10";
    private static final String SEVEN = W + ";hole 10 2;hole 20 2;hole 30 2;hole 40 2;hole 50 2;hole 60 2;hole 70 2";

    public static void main(String[] args) {
        numbers();
        wholeLength();
        strengths();
        ownLength();
        pitch();
        playsTone();
        easy();
        size();
        hole();
        covered();
        ranges();
        off();
        halvesAndCrosses();
        playsAndPlayOf();
        truest();
        lacking();
        changeAndFingers();
        nearest();
        fingering();
        Checks.end("PlayEdgesTest");
    }

    private static void due(Object want, Object got) { Checks.due(want, got); }

    private static HoleWhistle three() { return Checks.whistle(THREE); }

    private static HoleWhistle seven() { return Checks.whistle(SEVEN); }

    /** How the holes are covered by a play, the lowest one first, and + if it is strong. */
    private static String written(HoleWhistle x, int play) {
        x.writePlay(play);
        return Checks.output(x);
    }

    private static void numbers() {
        Edges.says(0, "its number is the sum of how each hole k is covered times 3^k, and 3^holes more if it is strong.");
        HoleWhistle none = new HoleWhistle();
        due(" +", written(none, 0) + " " + written(none, 1));
        HoleWhistle one = Checks.whistle(W + ";hole 100 5");
        due("o h x o+ h+ x+", written(one, 0) + " " + written(one, 1) + " " + written(one, 2) + " "
            + written(one, 3) + " " + written(one, 4) + " " + written(one, 5));
        HoleWhistle x = three();
        due("xoo oho xho xxo ooh", written(x, 2) + " " + written(x, 3) + " " + written(x, 5) + " " + written(x, 8) + " " + written(x, 9));
        due("xxx ooo+ xxx+", written(x, 26) + " " + written(x, 27) + " " + written(x, 53));
        HoleWhistle all = seven();
        due("xxxxxxo ooooooh", written(all, 728) + " " + written(all, 729));
        due("xxxxxxh oooooox", written(all, 1457) + " " + written(all, 1458));
        due("xxxxxxx ooooooo+ xxxxxxx+", written(all, 2186) + " " + written(all, 2187) + " " + written(all, 4373));

        Edges.says(0, "At first all holes are open and the breath is soft: play 0.");
        due("0 0 0 0", x.size(12) + " " + x.hole(0, 2) + " " + x.hole(1, 2) + " " + x.hole(2, 2));
        due("27", "" + x.blow(true));
        due("29 2", x.cover(0, 2) + " " + x.hole(0, 2));
    }

    private static void wholeLength() {
        Edges.says(0, "Without a hole that is not closed it is the whole one: 10 * LENGTH + 6 * BORE.");
        due("3072 3072", Edges.each(new HoleWhistle()::sounding, 0, 1));
        due("2030 2030", Edges.each(Checks.whistle("whistle 200 5 30")::sounding, 0, 1));
        due("6120 6120", Edges.each(Checks.whistle("whistle 600 20 30")::sounding, 0, 1));
        // All closed, and the plays next to it: the first or the last hole half covered.
        due("3072 1878 2298 3072", Edges.each(three()::sounding, 26, 25, 17, 53));
    }

    private static void strengths() {
        Edges.says(0, "a hole that is closed leaves it as it is; another one has a strength, its SIZE if it is open, (SIZE + 1) / 2 if it is half covered,");
        // Half covered 2 is as 1, 3 as 2, 14 as 7, 15 as 8.
        due("2197 2596 3072", Edges.each(Checks.whistle(W + ";hole 140 2")::sounding, 0, 1, 2));
        due("1998 2197 3072", Edges.each(Checks.whistle(W + ";hole 140 3")::sounding, 0, 1, 2));
        due("1698 1878 3072", Edges.each(Checks.whistle(W + ";hole 140 7")::sounding, 0, 1, 2));
        due("1665 1878 3072", Edges.each(Checks.whistle(W + ";hole 140 8")::sounding, 0, 1, 2));
        due("1559 1698 3072", Edges.each(Checks.whistle(W + ";hole 140 14")::sounding, 0, 1, 2));
        due("1549 1665 3072", Edges.each(Checks.whistle(W + ";hole 140 15")::sounding, 0, 1, 2));
    }

    private static void ownLength() {
        Edges.says(0, "if that is less than the length so far, the length becomes the own length plus (the length so far less the own length) / (1 + strength);"
            + " otherwise it leaves it as it is.");
        // The own length is one less than the whole one, as long, one more, and far more.
        due("3083 3084", Edges.each(Checks.whistle("whistle 300 14 30;hole 292 6")::sounding, 0, 2));
        due("3072 3072", Edges.each(Checks.whistle("whistle 300 12 30;hole 297 7")::sounding, 0, 2));
        due("3084 3084", Edges.each(Checks.whistle("whistle 300 14 30;hole 284 4")::sounding, 0, 2));
        due("3072 3072", Edges.each(Checks.whistle("whistle 300 12 30;hole 299 2")::sounding, 0, 2));
        // Open its own length is below the whole one, half covered above.
        due("2984 3072 3072", Edges.each(Checks.whistle("whistle 300 12 30;hole 258 2")::sounding, 0, 1, 2));
        // The last hole comes first: the first one is below what that leaves, the other way round it is not.
        due("1526 1627 1818", Edges.each(three()::sounding, 0, 1, 2));
    }

    private static void pitch() {
        Edges.says(0, "where L is its sounding length times 1000, n the greatest number, 0 to 47, for which Sn is L or more, and m is n + 1; but 4800 at most.");
        due("0 1200", Edges.each(new HoleWhistle()::cents, 0, 1));
        // S29 is 391000 here: a little longer than it, as long, a little shorter.
        due("392 2895", Checks.whistle("whistle 201 13 30;hole 3 7").sounding(0) + " " + Checks.whistle("whistle 201 13 30;hole 3 7").cents(0));
        due("391 2900", Checks.whistle("whistle 201 13 30;hole 11 9").sounding(0) + " " + Checks.whistle("whistle 201 13 30;hole 11 9").cents(0));
        due("390 2904", Checks.whistle("whistle 201 13 30;hole 16 11").sounding(0) + " " + Checks.whistle("whistle 201 13 30;hole 16 11").cents(0));
        // S48 is 377160 here, and each tenth of a millimetre is more than four cents.
        HoleWhistle below = Checks.whistle("whistle 600 6 30;hole 21 4;hole 49 14");
        HoleWhistle at = Checks.whistle("whistle 600 6 30;hole 9 5;hole 49 4");
        HoleWhistle above = Checks.whistle("whistle 600 6 30;hole 1 2;hole 49 12");
        due("378 4796", below.sounding(0) + " " + below.cents(0));
        due("377 4800", at.sounding(0) + " " + at.cents(0));
        due("376 4800", above.sounding(0) + " " + above.cents(0));
        HoleWhistle highest = Checks.whistle("whistle 600 5 30;hole 1 15;hole 2 15");
        due("42 4800", highest.sounding(0) + " " + highest.cents(0));

        Edges.says(0, "Blown strongly it is 1200 cents more (so 6000 at most).");
        due("5996 6000 6000 6000", below.cents(9) + " " + at.cents(9) + " " + above.cents(9) + " " + highest.cents(9));
        due("0 1200", Edges.each(below::cents, 8, 17));
    }

    private static void playsTone() {
        Edges.says(0, "A play plays the tone T, 0 to 24, if its pitch differs from 100 * T by at most TOLERANCE.");
        // 908 and 1083 cents, above and below a tone.
        HoleWhistle x = three();
        x.setTolerance(7);
        due("-1 -1", Edges.each(x::tone, 2, 4));
        x.setTolerance(8);
        due("9 -1", Edges.each(x::tone, 2, 4));
        x.setTolerance(16);
        due("9 -1", Edges.each(x::tone, 2, 4));
        x.setTolerance(17);
        due("9 11", Edges.each(x::tone, 2, 4));
        // 1049, 1050 and 1051 cents: with the greatest TOLERANCE those in the middle play none.
        due(10, Checks.whistle("whistle 300 12 49;hole 150 12").tone(0));
        due(-1, Checks.whistle("whistle 300 12 48;hole 150 12").tone(0));
        due(-1, Checks.whistle("whistle 300 12 49;hole 97 3").tone(0));
        due(11, Checks.whistle("whistle 300 12 49;hole 141 8").tone(0));
        due(-1, Checks.whistle("whistle 300 12 48;hole 141 8").tone(0));
        // The lowest tone: 0, 30, 31, 49 and 51 cents.
        due("0 -1 0", Checks.whistle(W + ";hole 291 7").tone(0) + " " + Checks.whistle(W + ";hole 263 2").tone(0) + " "
            + Checks.whistle(W + ";hole 291 7").tone(2));
        due(0, Checks.whistle("whistle 300 12 31;hole 263 2").tone(0));
        due("0 1", Checks.whistle("whistle 300 12 49;hole 218 2").tone(1) + " " + Checks.whistle("whistle 300 12 49;hole 258 2").tone(0));
        // The highest one: 2411 cents; 2449, 2450 and 2541 cents, of which the last one would be nearest to 25.
        x.setTolerance(10);
        due("-1 24", Edges.each(x::tone, 27, 36));
        x.setTolerance(11);
        due("24 24", Edges.each(x::tone, 27, 36));
        due(24, Checks.whistle("whistle 300 12 49;hole 111 6").tone(3));
        due(-1, Checks.whistle("whistle 300 12 48;hole 111 6").tone(3));
        due(-1, Checks.whistle("whistle 300 12 49;hole 47 11").tone(0));
        due(-1, Checks.whistle("whistle 300 12 49;hole 40 10").tone(0));
        due(-1, Checks.whistle("whistle 600 6 30;hole 9 5;hole 49 4").tone(9));
    }

    private static void easy() {
        Edges.says(0, "A play is easy if it has at most HALVES holes that are half covered, and at most CROSSES crosses: "
            + "holes that are closed while one with a lower number is not closed.");
        HoleWhistle x = seven();
        // Half covered: hole 0; 0 and 1; 0 to 2. Closed above an open hole 0: hole 1; 1 and 2; 1 to 3; 1 to 4.
        int[] byHalves = {0, 1, 4, 13};
        int[] byCrosses = {0, 6, 24, 78, 240};
        for (int limit = 0; limit <= 2; limit++) {
            x.setLimits(limit, 0);
            for (int n = 0; n < byHalves.length; n++) due(n + " " + (n <= limit), n + " " + x.isEasy(byHalves[n]));
            due(false, x.isEasy(6));
        }
        for (int limit = 0; limit <= 3; limit++) {
            x.setLimits(0, limit);
            for (int n = 0; n < byCrosses.length; n++) due(n + " " + (n <= limit), n + " " + x.isEasy(byCrosses[n]));
            due(false, x.isEasy(1));
        }
        // Holes 0 and 1 half covered, 2 to 4 closed: both limits are reached.
        x.setLimits(2, 3);
        due("true true", x.isEasy(238) + " " + x.isEasy(238 + 2187));
        x.setLimits(1, 3);
        due(false, x.isEasy(238));
        x.setLimits(2, 2);
        due(false, x.isEasy(238));
        // One that is half covered is not closed; below the lowest one that is not closed nothing crosses.
        x.setLimits(1, 0);
        due("false true", x.isEasy(7) + " " + x.isEasy(5));
        x.setLimits(1, 1);
        due("true true", x.isEasy(7) + " " + x.isEasy(5));
        x.setLimits(0, 0);
        due("true true true", x.isEasy(2186) + " " + x.isEasy(728) + " " + x.isEasy(2));

        Edges.says(15, "Tells whether a play is within HALVES and CROSSES.");
        HoleWhistle y = three();
        due("true true false true false", y.isEasy(0) + " " + y.isEasy(1) + " " + y.isEasy(4) + " " + y.isEasy(6) + " " + y.isEasy(24));
    }

    private static void size() {
        Edges.says(6, "11 plays (3^holes, times 2), 12 the play at hand, 13 the cost of all changes so far, 14 the place in the tune, 15 actions that can be taken back");
        due("argument 300 0 argument", Edges.each(new HoleWhistle()::size, -1, 0, 15, 16));
        due("argument argument", Edges.each(three()::size, MIN, MAX));
        due("2 6 54 4374", new HoleWhistle().size(11) + " " + Checks.whistle(W + ";hole 9 5").size(11) + " " + three().size(11) + " " + seven().size(11));

        Edges.says(6, "9 notes, 10 rests among them,");
        HoleWhistle x = three();
        due("0 0", Edges.each(x::size, 9, 10));
        x.addNote(0);
        due("1 0", Edges.each(x::size, 9, 10));
        x.addNote(-1);
        due("2 1", Edges.each(x::size, 9, 10));
        x.dropNote(0);
        due("1 1", Edges.each(x::size, 9, 10));
    }

    private static void hole() {
        Edges.says(7, "Throws `IndexOutOfBoundsException` if there is no such hole");
        HoleWhistle x = seven();
        due("index 10 70 index index index", Edges.each(k -> x.hole(k, 0), -1, 0, 6, 7, MIN, MAX));
        HoleWhistle none = new HoleWhistle();
        due("index index", Edges.each(k -> none.hole(k, 0), -1, 0));

        Edges.says(7, "Throws `IllegalArgumentException` if what is out of range");
        due("argument 10 2 0 argument argument argument", Edges.each(k -> x.hole(0, k), -1, 0, 1, 2, 3, MIN, MAX));
        x.cover(0, 2);
        due("2 0", x.hole(0, 2) + " " + x.hole(1, 2));
    }

    private static void covered() {
        Edges.says(8, "Throws `IndexOutOfBoundsException` if there is no such play or hole");
        HoleWhistle x = three();
        due("index 0 2 0 2 index index", Edges.each(k -> x.covered(k, 2), -1, 0, 26, 27, 53, 54, MAX));
        due("index 2 2 index index", Edges.each(k -> x.covered(26, k), -1, 0, 2, 3, MIN));
        due("index index", Edges.each(k -> x.covered(k, 3), -1, 0));
        HoleWhistle none = new HoleWhistle();
        due("index index", Edges.each(k -> none.covered(k, 0), 0, 2));
    }

    /** Each that takes a play: the first and the last one, and those that are none beside them. */
    private static void ranges() {
        HoleWhistle x = three();
        int[] edges = {-1, 0, 53, 54, MIN, MAX};
        HoleWhistle none = new HoleWhistle();
        int[] few = {-1, 0, 1, 2};
        Edges.says(9, "Throws `IndexOutOfBoundsException` if there is no such play");
        due("index 1526 3072 index index index", Edges.each(x::sounding, edges));
        due("index 3072 3072 index", Edges.each(none::sounding, few));
        Edges.says(10, "Throws `IndexOutOfBoundsException` if there is no such play");
        due("index 1211 1200 index index index", Edges.each(x::cents, edges));
        due("index 0 1200 index", Edges.each(none::cents, few));
        Edges.says(11, "Throws `IndexOutOfBoundsException` if there is no such play");
        due("index 12 12 index index index", Edges.each(x::tone, edges));
        due("index 0 12 index", Edges.each(none::tone, few));
        Edges.says(12, "Throws `IndexOutOfBoundsException` if there is no such play");
        due("index 11 0 index index index", Edges.each(x::off, edges));
        due("index 0 0 index", Edges.each(none::off, few));
        Edges.says(13, "Throws `IndexOutOfBoundsException` if there is no such play");
        due("index 0 0 index index index", Edges.each(x::halves, edges));
        due("index 0 0 index", Edges.each(none::halves, few));
        Edges.says(14, "Throws `IndexOutOfBoundsException` if there is no such play");
        due("index 0 0 index index index", Edges.each(x::crosses, edges));
        due("index 0 0 index", Edges.each(none::crosses, few));
        Edges.says(15, "Throws `IndexOutOfBoundsException` if there is no such play");
        due("index 1 1 index index index", Edges.each(k -> x.isEasy(k) ? 1 : 0, edges));
        due("index 1 1 index", Edges.each(k -> none.isEasy(k) ? 1 : 0, few));
        Edges.says(11, "Returns the tone, 0 to 24; NONE if it plays none.");
        due("12 -1 0 24", Edges.each(x::tone, 0, 5, 26, 27));
    }

    private static void off() {
        Edges.says(12, "Returns the cents, -49 to 50.");
        due(49, Checks.whistle(W + ";hole 150 12").off(0));
        due(50, Checks.whistle(W + ";hole 97 3").off(0));
        due(-49, Checks.whistle(W + ";hole 141 8").off(0));
        due("49 50 -49", Checks.whistle(W + ";hole 150 12").off(3) + " " + Checks.whistle(W + ";hole 97 3").off(3) + " "
            + Checks.whistle(W + ";hole 141 8").off(3));
        // 1199, 1200 (strong, all closed) and 1201 cents; 0 and 6000 cents.
        due("-1 0 1", Edges.each(three()::off, 18, 53, 3));
        due("0 0", three().off(26) + " " + Checks.whistle("whistle 600 6 30;hole 1 2;hole 49 12").off(9));
    }

    private static void halvesAndCrosses() {
        Edges.says(13, "Counts the holes that a play covers half.");
        HoleWhistle x = seven();
        due("0 1 0 7 6 7", Edges.each(x::halves, 0, 1, 2, 1093, 1094, 1093 + 2187));
        Edges.says(14, "Counts the holes that a play closes below one that is not closed.");
        // None is closed; hole 0 is; all are; all but hole 0, which is open or half covered; all but hole 6.
        due("0 0 0 6 6 0 0", Edges.each(x::crosses, 0, 2, 2186, 2184, 2185, 728, 1457));
        due("6 6 0", Edges.each(x::crosses, 2184 + 2187, 2185 + 2187, 4373));
    }

    private static void playsAndPlayOf() {
        Edges.says(16, "Throws `IllegalArgumentException` if tone is out of range");
        HoleWhistle x = three();
        due("argument 1 5 argument argument argument", Edges.each(x::plays, -1, 0, 24, 25, MIN, MAX));
        due("0 1 6 0", Edges.each(x::plays, 4, 5, 12, 13));
        Edges.says(17, "Throws `IllegalArgumentException` if tone is out of range");
        due("argument 26 27 argument argument argument", Edges.each(k -> x.playOf(k, 0), -1, 0, 24, 25, MIN, MAX));
        due("argument argument", Edges.each(k -> x.playOf(k, -1), -1, 25));
        Edges.says(17, "Returns the play; NONE if there is no such place.");
        due("-1 0 3 21 53 -1 -1 -1", Edges.each(k -> x.playOf(12, k), -1, 0, 1, 4, 5, 6, MIN, MAX));
        due("-1 26 -1", Edges.each(k -> x.playOf(0, k), -1, 0, 1));
        due("-1 48 -1", Edges.each(k -> x.playOf(24, k), -1, 4, 5));
        due("-1 -1", Edges.each(k -> x.playOf(13, k), -1, 0));
        due("17", Edges.each(k -> x.playOf(5, k), 0));
        due("-1", Edges.each(k -> x.playOf(4, k), 0));
    }

    private static void truest() {
        Edges.says(18, "Throws `IllegalArgumentException` if tone is out of range");
        HoleWhistle x = three();
        due("argument 26 30 argument argument argument", Edges.each(x::truest, -1, 0, 24, 25, MIN, MAX));

        Edges.says(18, "Finds the easy play of a tone that is least off, above or below.");
        // Of 12 there are 3, 1 above, 18, 1 below, and 53, 0 off.
        due("53 1 11 -1", Edges.each(x::truest, 12, 11, 9, 13));
        Edges.says(18, "Returns the play, of several the lowest one; NONE if there is none.");
        // As much above as below: the lowest play, be it the one above or the one below.
        HoleWhistle above = Checks.whistle(W + ";hole 174 14;hole 214 12");
        due("904 896 0", above.cents(0) + " " + above.cents(3) + " " + above.truest(9));
        due("2104 2096 9", above.cents(9) + " " + above.cents(12) + " " + above.truest(21));
        HoleWhistle below = Checks.whistle(W + ";hole 103 13;hole 246 8");
        due("1393 1407 7", below.cents(7) + " " + below.cents(14) + " " + below.truest(14));
        due("2401 2399 30", x.cents(30) + " " + x.cents(45) + " " + x.truest(24));
        // 30 covers a hole half: without it 45 is the truest one.
        x.setLimits(0, 1);
        due(45, x.truest(24));
        due("0 -1", new HoleWhistle().truest(0) + " " + new HoleWhistle().truest(1));
    }

    private static void lacking() {
        Edges.says(19, "Returns the sum of 2^tone over them.");
        // All but 0 and 12; all but 0, 5 to 12 and 17 to 24; all but 0, 6, 9, 12, 18, 21 and 24.
        due(33550334, new HoleWhistle().lacking());
        HoleWhistle x = three();
        due(122910, x.lacking());
        x.setLimits(0, 0);
        due(14413246, x.lacking());
        x.setTolerance(5);
        due(33550334, x.lacking());
    }

    private static void changeAndFingers() {
        HoleWhistle x = three();
        Edges.says(20, "Throws `IndexOutOfBoundsException` if there is no such play");
        due("index 0 4 index index index", Edges.each(k -> x.change(k, 0), -1, 0, 53, 54, MIN, MAX));
        due("index 0 4 index index index", Edges.each(k -> x.change(0, k), -1, 0, 53, 54, MIN, MAX));
        Edges.says(21, "Throws `IndexOutOfBoundsException` if there is no such play");
        due("index 0 3 index index index", Edges.each(k -> x.fingers(k, 0), -1, 0, 53, 54, MIN, MAX));
        due("index 0 3 index index index", Edges.each(k -> x.fingers(0, k), -1, 0, 53, 54, MIN, MAX));
        Edges.says(21, "Counts the holes that two plays cover differently.");
        due("0 0 1 1 3 3", x.fingers(5, 5) + " " + x.fingers(5, 32) + " " + x.fingers(0, 1) + " " + x.fingers(1, 2) + " " + x.fingers(0, 26) + " " + x.fingers(13, 53));
        HoleWhistle all = seven();
        due("7 6 7", all.fingers(0, 4373) + " " + all.fingers(0, 2184) + " " + all.fingers(1093, 2186));
    }

    private static void nearest() {
        HoleWhistle x = three();
        Edges.says(22, "Throws `IllegalArgumentException` if tone is out of range");
        due("argument 26 27 argument argument argument", Edges.each(x::nearest, -1, 0, 24, 25, MIN, MAX));
        Edges.says(22, "Returns the play, of several the lowest one; NONE if there is none.");
        due("0 -1 -1 17", Edges.each(x::nearest, 12, 13, 4, 5));
        // From xxo to ooo is 2, to xxx strong 1 and BREATH: with 1 both are alike, with 0 the latter is nearer, with 2 the former.
        x.cover(0, 2);
        x.cover(1, 2);
        due("0", "" + x.nearest(12));
        x.setCosts(1, 2, 0);
        due("53", "" + x.nearest(12));
        x.setCosts(1, 2, 2);
        due("0", "" + x.nearest(12));
        due("-1 0", new HoleWhistle().nearest(1) + " " + new HoleWhistle().nearest(0));
    }

    private static void fingering() {
        HoleWhistle x = three();
        Edges.says(50, "Throws `IllegalArgumentException` if tone is out of range");
        Checks.noArgument(() -> x.fingering(-1), () -> x.fingering(25), () -> x.fingering(MIN), () -> x.fingering(MAX));
        due("1.0 " + 5.0f / 6.0f, x.fingering(0) + " " + x.fingering(24));
        Edges.says(50, "Returns (float) plays(tone) / (float) (all plays of the tone, easy or not); 0.0f without any.");
        // All of 5 are easy, none of 4 is there; of 7 its only play is not easy with other limits.
        due(1.0f, x.fingering(5));
        due(0.0f, x.fingering(4));
        due(0.0f, x.fingering(13));
        due(1.0f, x.fingering(7));
        due(0.5f, x.fingering(8));
        x.setLimits(0, 0);
        due(0.0f, x.fingering(7));
        x.setLimits(2, 3);
        due("1.0 " + 0.8f, x.fingering(8) + " " + x.fingering(11));
    }
}
