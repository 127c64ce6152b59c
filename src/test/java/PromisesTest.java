/** Each promise by itself: what it says, the edges that it names, and wrong inputs. */
public final class PromisesTest {
    private static final int MIN = Integer.MIN_VALUE;
    private static final int MAX = Integer.MAX_VALUE;

    // Its plays, as reckoned by hand: number, lengths and cents are in THREE_LENGTHS and THREE_CENTS.
    private static final String THREE = "whistle 300 12 30;hole 140 8;hole 170 9;hole 200 10";
    private static final int[] THREE_LENGTHS = {1526, 1627, 1818, 1535, 1643, 1897, 1564, 1696, 2162, 1527, 1630, 1831,
        1537, 1647, 1919, 1579, 1723, 2298, 1536, 1645, 1909, 1552, 1673, 2048, 1665, 1878, 3072};
    private static final int[] THREE_CENTS = {1211, 1100, 908, 1201, 1083, 835, 1169, 1028, 608, 1210, 1097, 895,
        1198, 1079, 814, 1152, 1001, 502, 1199, 1081, 824, 1182, 1052, 701, 1060, 852, 0};
    private static final String SONG = THREE + ";tune 0 6 9 12 rest 12 0";

    public static void main(String[] args) {
        newObject();
        append();
        load();
        loadNumbers();
        loadTunes();
        loadErrorAndStatement();
        size();
        hole();
        covered();
        soundingAndCents();
        toneAndOff();
        halvesCrossesEasy();
        playsAndPlayOf();
        truest();
        lacking();
        changeAndFingers();
        nearest();
        note();
        playable();
        costAndWay();
        ties();
        hardest();
        movedAndIdle();
        costByAndBestBy();
        costWithAndLevel();
        freshness();
        manyPlays();
        setHole();
        setNumbers();
        addAndSetNote();
        dropNote();
        repeat();
        higher();
        coverAndBlow();
        step();
        rewind();
        meanCostAndFingering();
        writing();
        undo();
        snapshots();
        Checks.end("PromisesTest");
    }

    private static void due(Object want, Object got) { Checks.due(want, got); }

    private static HoleWhistle three() { return Checks.whistle(THREE); }

    private static HoleWhistle song() { return Checks.whistle(SONG); }

    private static void newObject() {
        Checks.part("promise 1");
        HoleWhistle x = new HoleWhistle();
        due("300 12 30 0 1 1 1 2 1 0 0 2 0 0 0 0", Checks.sizes(x));
        due(-1, x.outputByte(0));
        due(-1, x.restoreSnapshot(0));
        due(-1, x.restoreSnapshot(1));
        due(0, x.append(0L));
        due(-100, x.load());
        due(-1, HoleWhistle.NONE);
        due(-2, HoleWhistle.FULL);
        due(-3, HoleWhistle.WRONG);
        due(-99, HoleWhistle.NOTHING);
        HoleWhistle y = Checks.whistle("whistle 300 12 30");
        due(Checks.sizes(new HoleWhistle()), Checks.sizes(y));
    }

    private static void append() {
        Checks.part("promise 2");
        HoleWhistle x = new HoleWhistle();
        due(1, x.append(0x2000000000000000L));
        due(2, x.append(32L));
        due(4, x.append(0x0020000000200000L));
        due(4, x.append(0L));
        for (int k = 1; k <= 49; k++) due(4 + 8 * k, x.append(-1L));
        due(-2, x.append(0x0101010101L));
        due(396, x.append(0L));
        due(400, x.append(0x01010101L));
        due(-2, x.append(1L));
        due(400, x.append(0L));
        // The most significant byte is the first: "wh" behind four spaces, then a byte of 255.
        due(-104, x.load());
        x.append(0x7700680000000000L);
        x.append(0x0069007300740000L);
        due(9, Checks.feed(x, "le 2"));
        due(17, Checks.feed(x, "00 5 49 "));
        due(0, x.load());
        due(200, x.size(0));
    }

    private static void load() {
        Checks.part("promise 3");
        HoleWhistle x = Checks.whistle("whistle 600 20 49;hole 599 15;limit 2 3;cost 9 8 7;tune (0 24 rest)2;limit 0 1;cost 3 4 0");
        due("600 20 49 1 0 1 3 4 0 6 2 6 0 0 0 0", Checks.sizes(x));
        due("0 24 r 0 24 r", Checks.tune(x));
        x.blow(true);
        x.step();
        x.writeTune();
        x.saveSnapshot(0);
        String before = Checks.sizes(x);
        String written = Checks.output(x);
        due(-102, Checks.load(x, "  x"));
        due(before, Checks.sizes(x));
        due("0 24 r 0 24 r", Checks.tune(x));
        due(-100, x.load());
        due(before, Checks.sizes(x));
        due(0, Checks.load(x, "  whistle300 7 5  "));
        due("300 7 5 0 1 1 1 2 1 0 0 2 0 0 0 0", Checks.sizes(x));
        due(-1, x.undo());
        due(written, Checks.output(x));
        due(6, x.restoreSnapshot(0));
        due(2, Checks.load(x, "whistle 300 12 30 ; tune 3 4"));
        due(-100 - 17, Checks.load(x, "whistle 300 12 30,"));
        due("3 4", Checks.tune(x));
    }

    private static void error(int kind, int place, int statement, String text) {
        HoleWhistle x = new HoleWhistle();
        due("" + (-100 - place) + " " + kind + " " + statement, Checks.load(x, text) + " " + x.loadError() + " " + x.loadStatement());
    }

    private static final String W = "whistle 300 12 30";

    private static void loadNumbers() {
        Checks.part("section 1, statements");
        error(1, 0, 0, "");
        error(1, 3, 0, "   ");
        error(1, 0, 0, "whistl 300 12 30");
        error(1, 0, 0, "whistles 300 12 30");
        error(1, 0, 0, "Whistle 300 12 30");
        error(1, 1, 0, " hole 3 4");
        error(1, 0, 0, ";" + W);
        error(1, 7, 0, "whistle");
        error(1, 9, 0, "whistle  ");
        error(1, 8, 0, "whistle x");
        error(2, 8, 0, "whistle 199 12 30");
        error(2, 8, 0, "whistle 601 12 30");
        error(2, 12, 0, "whistle 200 4 30");
        error(2, 12, 0, "whistle 200 21 30");
        error(2, 14, 0, "whistle 200 5 4");
        error(2, 14, 0, "whistle 200 5 50");
        error(2, 14, 0, "whistle 200 5 99999999999999999999999999");
        error(2, 14, 0, "whistle 200 5 4294967301");
        due(0, Checks.load(new HoleWhistle(), "whistle 000200 05 0049"));
        error(1, 11, 0, "whistle 300;12 30");
        error(1, 17, 0, W + "!");
        error(1, 18, 0, W + " 5");
        error(1, 18, 0, W + " hole 5 5");
        error(1, 18, 1, W + ";");
        error(1, 20, 1, W + ";  ");
        error(1, 18, 1, W + ";;");
        error(1, 18, 1, W + ";" + W);
        error(1, 18, 1, W + ";rest");
        error(1, 18, 1, W + ";5");
        error(1, 17, 0, W + "\u00e9");
        error(1, 17, 0, W + "\n");
        error(2, 23, 1, W + ";hole 0 5");
        error(2, 23, 1, W + ";hole 300 5");
        error(2, 27, 1, W + ";hole 299 1");
        error(2, 27, 1, W + ";hole 299 16");
        error(1, 27, 1, W + ";hole 299 ;");
        due(0, Checks.load(new HoleWhistle(), W + ";hole1 2;hole2 15;hole 299 2"));
        error(2, 33, 2, W + ";hole 99 5;hole 99 5");
        error(2, 34, 2, W + ";hole 299 5;hole 299 5");
        String six = W + ";hole 1 2;hole 2 2;hole 3 2;hole 4 2;hole 5 2;hole 6 2";
        due(0, Checks.load(new HoleWhistle(), six + ";hole 7 2"));
        error(3, 81, 8, six + ";hole 7 2;hole 8 2");
        error(3, 82, 8, six + ";hole 7 2; hole");
        error(1, 81, 8, six + ";hole 7 2;holes");
        error(2, 24, 1, W + ";limit 3 0");
        error(2, 26, 1, W + ";limit 2 4");
        error(1, 25, 1, W + ";limit 2");
        error(2, 23, 1, W + ";cost 0 1 1");
        error(2, 23, 1, W + ";cost 10 1 1");
        error(2, 25, 1, W + ";cost 1 0 1");
        error(2, 25, 1, W + ";cost 1 10 1");
        error(2, 27, 1, W + ";cost 1 1 10");
        error(1, 26, 1, W + ";cost 9 9-0");
    }

    private static void loadTunes() {
        Checks.part("section 1, tunes");
        String t = W + ";tune ";
        error(1, 22, 1, W + ";tune");
        error(1, 23, 1, t);
        error(1, 23, 1, t + ";");
        error(2, 23, 1, t + "25");
        error(1, 23, 1, t + "rests");
        error(1, 23, 1, t + "resta");
        error(1, 23, 1, t + "restz");
        error(1, 27, 1, t + "rest{");
        error(1, 27, 1, t + "rest`");
        error(1, 24, 1, t + "1/");
        error(1, 24, 1, t + "1:");
        error(1, 25, 1, t + "1 hole 3 4");
        error(1, 23, 1, t + ")");
        error(1, 24, 1, t + "()2");
        error(1, 25, 1, t + "(1");
        error(1, 25, 1, t + "(1;");
        error(1, 26, 1, t + "(1)");
        error(1, 26, 1, t + "(1)(2)2");
        error(1, 26, 1, t + "(1)rest");
        error(2, 26, 1, t + "(1)0");
        error(2, 26, 1, t + "(1)10");
        error(1, 24, 1, t + "1)2");
        error(1, 24, 1, t + "1,2");
        error(3, 27, 1, t + "(((((1)1)1)1)1)1");
        error(3, 25, 2, t + "1;tune 2");
        due(1, Checks.load(new HoleWhistle(), t + "((((1)1)1)1)1"));
        HoleWhistle x = new HoleWhistle();
        due(12, Checks.load(x, t + "1rest2(3(4 rest)2)1(5)2 0 24"));
        due("1 r 2 3 4 r 4 r 5 5 0 24", Checks.tune(x));
        due(40, Checks.load(x, t + "((1 2)9 3 4)2"));
        error(4, 37, 1, t + "((1 2)9 3 4)2 5");
        error(4, 37, 1, t + "((1 2)9 3 4)2 rest");
        error(2, 37, 1, t + "((1 2)9 3 4)2 25");
        error(4, 37, 1, t + "((1 2)9 3 4)2(5)0");
        error(4, 35, 1, t + "((1 2)9 3 4)3;");
        error(4, 37, 1, t + "((1 2)9 3 4 5)2");
        error(2, 37, 1, t + "((1 2)9 3 4 5)0");
        due(40, Checks.load(x, t + "(1 1 1 1 1)8;hole 5 5"));
        due(1, x.size(3));
        error(4, 34, 1, t + "(1 1 1 1 1)9");
        error(4, 41, 1, t + "(1 1 1 1 1)7 (2 2)3");
    }

    private static void loadErrorAndStatement() {
        Checks.part("promises 4 and 5");
        HoleWhistle x = new HoleWhistle();
        due("0 -1", x.loadError() + " " + x.loadStatement());
        Checks.load(x, W + ";tune (1;hole 4 4");
        due("1 1", x.loadError() + " " + x.loadStatement());
        x.saveSnapshot(0);
        x.restoreSnapshot(0);
        x.blow(true);
        x.undo();
        due("1 1", x.loadError() + " " + x.loadStatement());
        Checks.load(x, W + ";limit 0 0;limit 9 9");
        due("2 2", x.loadError() + " " + x.loadStatement());
        Checks.load(x, W);
        due("0 -1", x.loadError() + " " + x.loadStatement());
    }

    private static void size() {
        Checks.part("promise 6");
        HoleWhistle x = Checks.whistle("whistle 400 13 20;hole 100 7;hole 300 9;limit 2 3;cost 4 5 6;tune 0 rest rest 3");
        due("400 13 20 2 2 3 4 5 6 4 2 18 0 0 0 0", Checks.sizes(x));
        x.cover(1, 2);
        x.rewind(2);
        due("400 13 20 2 2 3 4 5 6 4 2 18 6 4 2 2", Checks.sizes(x));
        Checks.noArgument(() -> x.size(-1), () -> x.size(16), () -> x.size(MIN), () -> x.size(MAX));
        due(4374, Checks.whistle(W + ";hole 1 2;hole 2 2;hole 3 2;hole 4 2;hole 5 2;hole 6 2;hole 7 2").size(11));
    }

    private static void hole() {
        Checks.part("promise 7");
        HoleWhistle x = three();
        x.cover(0, 2);
        x.cover(1, 1);
        x.blow(true);
        due("140 8 2", x.hole(0, 0) + " " + x.hole(0, 1) + " " + x.hole(0, 2));
        due("170 9 1", x.hole(1, 0) + " " + x.hole(1, 1) + " " + x.hole(1, 2));
        due("200 10 0", x.hole(2, 0) + " " + x.hole(2, 1) + " " + x.hole(2, 2));
        Checks.noIndex(() -> x.hole(-1, 0), () -> x.hole(3, 0), () -> x.hole(3, 9), () -> x.hole(MAX, -1), () -> x.hole(MIN, 0));
        Checks.noArgument(() -> x.hole(0, -1), () -> x.hole(2, 3), () -> x.hole(2, MAX));
    }

    private static void covered() {
        Checks.part("promise 8");
        HoleWhistle x = three();
        due("2 1 0", x.covered(5, 0) + " " + x.covered(5, 1) + " " + x.covered(5, 2));
        due("2 1 0", x.covered(32, 0) + " " + x.covered(32, 1) + " " + x.covered(32, 2));
        due("0 0 0", x.covered(27, 0) + " " + x.covered(27, 1) + " " + x.covered(27, 2));
        due("2 2 2", x.covered(53, 0) + " " + x.covered(53, 1) + " " + x.covered(53, 2));
        Checks.noIndex(() -> x.covered(-1, 0), () -> x.covered(54, 0), () -> x.covered(0, 3), () -> x.covered(0, -1));
        Checks.noIndex(() -> x.covered(MAX, MIN), () -> x.covered(0, MAX), () -> new HoleWhistle().covered(0, 0));
    }

    private static void soundingAndCents() {
        Checks.part("promises 9 and 10");
        HoleWhistle x = three();
        for (int play = 0; play < 27; play++) {
            due(THREE_LENGTHS[play], x.sounding(play));
            due(THREE_LENGTHS[play], x.sounding(play + 27));
            due(THREE_CENTS[play], x.cents(play));
            due(THREE_CENTS[play] + 1200, x.cents(play + 27));
        }
        Checks.noIndex(() -> x.sounding(-1), () -> x.sounding(54), () -> x.cents(-1), () -> x.cents(54), () -> x.cents(MAX));
        HoleWhistle high = Checks.whistle("whistle 600 5 30;hole 1 15;hole 2 15");
        due(42, high.sounding(0));
        due(4800, high.cents(0));
        due(6000, high.cents(9));
        due(-1, high.tone(0));
        due(0, high.off(9));
        HoleWhistle one = Checks.whistle("whistle 200 5 30;hole 1 15");
        due(143, one.sounding(0));
        due(4592, one.cents(0));
        HoleWhistle last = Checks.whistle("whistle 453 5 30;hole 1 15");
        due("301 4705", last.sounding(0) + " " + last.cents(0));
        // Its own length is not below the whole one: such a hole leaves it as it is.
        HoleWhistle low = Checks.whistle(W + ";hole 299 2");
        due("3072 3072 3072", low.sounding(0) + " " + low.sounding(1) + " " + low.sounding(2));
    }

    private static void toneAndOff() {
        Checks.part("promises 11 and 12");
        HoleWhistle x = three();
        due("12 11 9 12 11 -1 -1 10 6", x.tone(0) + " " + x.tone(1) + " " + x.tone(2) + " " + x.tone(3) + " " + x.tone(4)
            + " " + x.tone(5) + " " + x.tone(6) + " " + x.tone(7) + " " + x.tone(8));
        due("24 -1 12", x.tone(27) + " " + x.tone(33) + " " + x.tone(53));
        due("11 0 8 -17 35 -31 0", x.off(0) + " " + x.off(1) + " " + x.off(2) + " " + x.off(4) + " " + x.off(5) + " " + x.off(6) + " " + x.off(53));
        x.setTolerance(31);
        due(12, x.tone(6));
        x.setTolerance(8);
        due(9, x.tone(2));
        x.setTolerance(7);
        due(-1, x.tone(2));
        HoleWhistle two = Checks.whistle("whistle 300 12 49;hole 150 8;hole 200 8");
        due(1050, two.cents(3));
        due(50, two.off(3));
        due(50, two.off(12));
        due(-1, two.tone(3));
        // A tone above 24 is none, and so is one a little above it.
        HoleWhistle high = Checks.whistle("whistle 300 12 49;hole 40 15");
        due(-1, high.tone(0));
        Checks.noIndex(() -> x.tone(-1), () -> x.tone(54), () -> x.off(-1), () -> x.off(54), () -> x.off(MIN));
    }

    private static void halvesCrossesEasy() {
        Checks.part("promises 13 to 15");
        HoleWhistle x = three();
        due("0 3 2 0 1", x.halves(0) + " " + x.halves(13) + " " + x.halves(10) + " " + x.halves(53) + " " + x.halves(50));
        due("0 0 1 2 2 0 1", x.crosses(0) + " " + x.crosses(8) + " " + x.crosses(20) + " " + x.crosses(24) + " " + x.crosses(25)
            + " " + x.crosses(26) + " " + x.crosses(50));
        due("true true false false false", x.isEasy(0) + " " + x.isEasy(23) + " " + x.isEasy(22) + " " + x.isEasy(24) + " " + x.isEasy(13 + 27));
        x.setLimits(2, 3);
        due("true true false", x.isEasy(22) + " " + x.isEasy(24) + " " + x.isEasy(13));
        x.setLimits(0, 0);
        due("true false false true", x.isEasy(26) + " " + x.isEasy(1) + " " + x.isEasy(20) + " " + x.isEasy(53));
        Checks.noIndex(() -> x.halves(-1), () -> x.halves(54), () -> x.crosses(-1), () -> x.crosses(54), () -> x.isEasy(-1), () -> x.isEasy(54));
        HoleWhistle seven = Checks.whistle(W + ";hole 10 2;hole 20 2;hole 30 2;hole 40 2;hole 50 2;hole 60 2;hole 70 2");
        due(6, seven.crosses(2186 - 1));
        due(6, seven.crosses(2186 - 2));
        due(0, seven.crosses(2186));
        due(7, seven.halves((2187 - 1) / 2));
    }

    private static void playsAndPlayOf() {
        Checks.part("promises 16 and 17");
        HoleWhistle x = three();
        int[] due12 = {0, 3, 9, 18, 21, 53, -1};
        for (int k = 0; k < due12.length; k++) due(due12[k], x.playOf(12, k));
        due(6, x.plays(12));
        due("1 0 1 2 1 2 5", x.plays(0) + " " + x.plays(1) + " " + x.plays(8) + " " + x.plays(9) + " " + x.plays(10) + " " + x.plays(11) + " " + x.plays(24));
        due("-1 -1 -1", x.playOf(12, -1) + " " + x.playOf(12, MAX) + " " + x.playOf(12, MIN));
        due("-1 48 -1", x.playOf(1, 0) + " " + x.playOf(24, 4) + " " + x.playOf(24, 5));
        x.setLimits(2, 1);
        due("7 12", x.plays(12) + " " + x.playOf(12, 3));
        x.undo();
        due("6 18", x.plays(12) + " " + x.playOf(12, 3));
        Checks.noArgument(() -> x.plays(-1), () -> x.plays(25), () -> x.playOf(-1, 0), () -> x.playOf(25, -1), () -> x.plays(MIN));
    }

    private static void truest() {
        Checks.part("promise 18");
        HoleWhistle x = three();
        due("53 11 30 26 -1", x.truest(12) + " " + x.truest(9) + " " + x.truest(24) + " " + x.truest(0) + " " + x.truest(1));
        x.setLimits(0, 1);
        due("45 2", x.truest(24) + " " + x.truest(9));
        Checks.noArgument(() -> x.truest(-1), () -> x.truest(25), () -> x.truest(MAX));
    }

    private static void lacking() {
        Checks.part("promise 19");
        due(122910, three().lacking());
        due(33550334, new HoleWhistle().lacking());
        HoleWhistle x = three();
        x.setLimits(0, 0);
        due((1 << 25) - 1 - 1 - (1 << 6) - (1 << 9) - (1 << 12) - (1 << 18) - (1 << 21) - (1 << 24), x.lacking());
    }

    private static void changeAndFingers() {
        Checks.part("promises 20 and 21");
        HoleWhistle x = three();
        due("0 1 2 2 3 5 4", x.change(4, 4) + " " + x.change(0, 2) + " " + x.change(0, 1) + " " + x.change(1, 2) + " "
            + x.change(0, 26) + " " + x.change(0, 50) + " " + x.change(53, 0));
        due("0 1 1 1 3 3 0 3", x.fingers(4, 4) + " " + x.fingers(0, 2) + " " + x.fingers(0, 1) + " " + x.fingers(1, 2) + " "
            + x.fingers(0, 26) + " " + x.fingers(0, 53) + " " + x.fingers(0, 27) + " " + x.fingers(13, 26));
        x.setCosts(9, 4, 7);
        due("27 12 34 7 8", x.change(0, 26) + " " + x.change(13, 0) + " " + x.change(26, 27) + " " + x.change(3, 30) + " " + x.change(1, 5));
        Checks.noIndex(() -> x.change(-1, 0), () -> x.change(54, 0), () -> x.change(0, -1), () -> x.change(0, 54));
        Checks.noIndex(() -> x.fingers(-1, 0), () -> x.fingers(54, 0), () -> x.fingers(0, -1), () -> x.fingers(0, 54));
    }

    private static void nearest() {
        Checks.part("promise 22");
        HoleWhistle x = three();
        due("0 1 -1 26", x.nearest(12) + " " + x.nearest(11) + " " + x.nearest(13) + " " + x.nearest(0));
        x.cover(0, 2);
        x.cover(1, 2);
        // From xxo to xxx strong it is as much as to ooo: the lowest one.
        due("0 8", x.nearest(12) + " " + x.nearest(6));
        x.cover(2, 2);
        due("53", "" + x.nearest(12));
        x.setCosts(1, 1, 9);
        due("18", "" + x.nearest(12));
        Checks.noArgument(() -> x.nearest(-1), () -> x.nearest(25));
    }

    private static void note() {
        Checks.part("promise 23");
        HoleWhistle x = song();
        due("0 12 -1 0", x.note(0) + " " + x.note(3) + " " + x.note(4) + " " + x.note(6));
        Checks.noIndex(() -> x.note(-1), () -> x.note(7), () -> x.note(MAX), () -> new HoleWhistle().note(0));
    }

    private static void playable() {
        Checks.part("promises 24 and 25");
        HoleWhistle x = song();
        due("true -1", x.isPlayable() + " " + x.firstLacking());
        x.setNote(5, 13);
        due("false 5", x.isPlayable() + " " + x.firstLacking());
        x.setNote(3, 1);
        due("false 3", x.isPlayable() + " " + x.firstLacking());
        x.setNote(0, 16);
        due("false 0", x.isPlayable() + " " + x.firstLacking());
        x.setNote(0, 0);
        x.setNote(3, -1);
        x.setNote(5, -1);
        due("true -1", x.isPlayable() + " " + x.firstLacking());
        HoleWhistle none = new HoleWhistle();
        due("true -1", none.isPlayable() + " " + none.firstLacking());
        none.addNote(-1);
        due("true -1", none.isPlayable() + " " + none.firstLacking());
    }

    private static String way(HoleWhistle x) {
        StringBuilder b = new StringBuilder().append(x.cost()).append(':');
        for (int k = 0; k < x.size(9); k++) b.append(' ').append(x.wayPlay(k)).append('/').append(x.wayChange(k));
        return b.toString();
    }

    private static void costAndWay() {
        Checks.part("promises 26 to 28");
        HoleWhistle x = song();
        due("4: 26/0 8/1 2/1 0/1 -1/0 53/0 26/1", way(x));
        x.setCosts(1, 2, 3);
        due("5: 26/0 8/1 2/1 0/1 -1/0 18/0 26/2", way(x));
        x.undo();
        due("4: 26/0 8/1 2/1 0/1 -1/0 53/0 26/1", way(x));
        x.setNote(5, 13);
        due("-1: -1/-1 -1/-1 -1/-1 -1/-1 -1/-1 -1/-1 -1/-1", way(x));
        due("0:", way(new HoleWhistle()));
        due("0: -1/0 -1/0", way(Checks.whistle(THREE + ";tune rest rest")));
        due("0: 0/0", way(Checks.whistle(THREE + ";tune 12")));
        Checks.noIndex(() -> x.wayPlay(-1), () -> x.wayPlay(7), () -> x.wayChange(-1), () -> x.wayChange(7), () -> x.wayPlay(MIN));
    }

    /** Of several easiest ways the first note decides, then the second one and so on. */
    private static void ties() {
        Checks.part("section 3, ties");
        // From a tone to the same one all plays of it cost nothing: the lowest one.
        due("0: 0/0 0/0 0/0", way(Checks.whistle(THREE + ";tune 12 12 12")));
        // All ways by 18 or 53 to 26 cost less than by 0; of 24 the play that is lowest among the cheapest.
        due("1: 53/0 26/1", way(Checks.whistle(THREE + ";cost 1 2 1;tune 12 0")));
        due("2: 18/0 26/2", way(Checks.whistle(THREE + ";cost 1 2 2;tune 12 0")));
        due("2: 0/0 2/1 0/1", way(Checks.whistle(THREE + ";tune 12 9 12")));
        due("1: 27/0 0/1", way(Checks.whistle(THREE + ";tune 24 12")));
        due("0: 27/0 0/0", way(Checks.whistle(THREE + ";cost 1 2 0;tune 24 12")));
        // Holes so far down that they change nothing: 1248 plays of one tone, soft and easy.
        HoleWhistle many = Checks.whistle(W + ";hole 293 2;hole 294 2;hole 295 2;hole 296 2;hole 297 2;hole 298 2;hole 299 2;limit 2 3;tune (0 12)9");
        due(many.plays(0), many.plays(12));
        due(17, many.cost());
        due("0 2187 0", many.wayPlay(0) + " " + many.wayPlay(1) + " " + many.wayPlay(16));
    }

    private static void hardest() {
        Checks.part("promise 29");
        due(1, song().hardest());
        due(-1, new HoleWhistle().hardest());
        due(0, Checks.whistle(THREE + ";tune rest").hardest());
        due(0, Checks.whistle(THREE + ";tune 12 12").hardest());
        due(2, Checks.whistle(THREE + ";tune 0 6 7 8").hardest());
        due(-1, Checks.whistle(THREE + ";tune 0 13").hardest());
    }

    private static void movedAndIdle() {
        Checks.part("promises 30 and 31");
        HoleWhistle x = song();
        due("1 1 1 0", x.moved(0) + " " + x.moved(1) + " " + x.moved(2) + " " + x.idle());
        HoleWhistle y = Checks.whistle(THREE + ";tune 0 6 rest 9 6");
        due("0 1 1 1", y.moved(0) + " " + y.moved(1) + " " + y.moved(2) + " " + y.idle());
        // Across the rest hole 2 changes, but that is no change.
        HoleWhistle z = Checks.whistle(THREE + ";tune 0 rest 6");
        due("0 0 0 3", z.moved(0) + " " + z.moved(1) + " " + z.moved(2) + " " + z.idle());
        // A breath covers nothing.
        due(7, Checks.whistle(THREE + ";tune 0 rest (0)2").idle());
        due(7, Checks.whistle(THREE + ";tune 12 24").idle());
        due(7, three().idle());
        due(7, Checks.whistle(THREE + ";tune rest").idle());
        HoleWhistle none = Checks.whistle(THREE + ";tune 1");
        due("-1 -1", none.moved(2) + " " + none.idle());
        Checks.noIndex(() -> x.moved(-1), () -> x.moved(3), () -> none.moved(3));
    }

    private static void costByAndBestBy() {
        Checks.part("promises 32 and 33");
        HoleWhistle x = song();
        due("4 4 -1 -1 -1", x.costBy(0) + " " + x.costBy(12) + " " + x.costBy(-1) + " " + x.costBy(1) + " " + x.costBy(-12));
        due(0, x.bestBy());
        due("0 6 9 12 r 12 0", Checks.tune(x));
        Checks.noArgument(() -> x.costBy(-13), () -> x.costBy(13), () -> x.costBy(MIN), () -> x.costBy(MAX));
        due(-1, Checks.whistle(THREE + ";tune 13").bestBy());
        due(1, Checks.whistle(THREE + ";tune 16").bestBy());
        due(3, Checks.whistle(THREE + ";limit 0 0;tune 3").bestBy());
        due(-99, Checks.whistle(W + ";tune 5 6").bestBy());
        due(5, Checks.whistle(W + ";tune 7 rest").bestBy());
        due(6, Checks.whistle(W + ";tune 6").bestBy());
        due(-6, Checks.whistle(W + ";tune 18").bestBy());
        due(-99, Checks.whistle(W + ";tune 19").bestBy());
        HoleWhistle rests = Checks.whistle(THREE + ";tune rest rest");
        due("0 0 0 0", rests.costBy(12) + " " + rests.costBy(-12) + " " + rests.bestBy() + " " + new HoleWhistle().costBy(-7));
        HoleWhistle y = Checks.whistle(THREE + ";tune 8 9");
        due("1 3 2 0", y.costBy(0) + " " + y.costBy(1) + " " + y.costBy(-1) + " " + y.bestBy());
        // A semitone lower or higher costs the same: the higher one.
        HoleWhistle z = Checks.whistle(THREE + ";tune 9 10");
        due("3 1 1 1", z.costBy(0) + " " + z.costBy(-1) + " " + z.costBy(1) + " " + z.bestBy());
    }

    /** What was reckoned ahead of an action must not be told behind it, nor behind its undo. */
    private static void freshness() {
        Checks.part("answers behind actions");
        HoleWhistle x = Checks.whistle(THREE + ";tune 0 6 9 12");
        String before = all(x);
        HoleWhistle y = Checks.whistle("whistle 300 12 30;hole 140 8;hole 170 9;hole 190 10;tune 0 6 9 12");
        String other = all(y);
        x.setHole(2, 190, 10);
        due(other, all(x));
        x.undo();
        due(before, all(x));
        y.setHole(2, 200, 10);
        due(before, all(y));
        x.setTolerance(5);
        due(all(Checks.whistle(THREE.replace("12 30", "12 5") + ";tune 0 6 9 12")), all(x));
        x.undo();
        due(before, all(x));
        x.setLimits(0, 0);
        due(all(Checks.whistle(THREE + ";limit 0 0;tune 0 6 9 12")), all(x));
        x.undo();
        due(before, all(x));
        x.setCosts(3, 1, 2);
        due(all(Checks.whistle(THREE + ";cost 3 1 2;tune 0 6 9 12")), all(x));
        x.undo();
        due(before, all(x));
        x.addNote(0);
        due(all(Checks.whistle(THREE + ";tune 0 6 9 12 0")), all(x));
        x.undo();
        x.setNote(1, 12);
        due(all(Checks.whistle(THREE + ";tune 0 12 9 12")), all(x));
        x.undo();
        x.dropNote(1);
        due(all(Checks.whistle(THREE + ";tune 0 9 12")), all(x));
        x.undo();
        x.repeat(1, 2);
        due(all(Checks.whistle(THREE + ";tune 0 6 9 6 9 12")), all(x));
        x.undo();
        x.higher(12);
        due(all(Checks.whistle(THREE + ";tune 12 18 21 24")), all(x));
        x.undo();
        due(before, all(x));
        x.saveSnapshot(0);
        Checks.load(x, "whistle 600 20 49;limit 0 0;cost 9 9 9;tune 12 0");
        due("600 20 49 0 0 0 9 9 9 2 0 2 0 0 0 0", Checks.sizes(x));
        due("9: 1/0 0/9", way(x));
        Checks.load(x, "whistle 300 12 30");
        due("300 12 30 0 1 1 1 2 1 0 0 2 0 0 0 0", Checks.sizes(x));
        x.restoreSnapshot(0);
        due(before, all(x));
        due(0, x.size(15));
    }

    private static String all(HoleWhistle x) {
        return way(x) + " " + x.cents(1) + " " + x.plays(12) + " " + x.fingering(12) + " " + x.lacking() + " " + x.truest(12) + " "
            + x.costBy(0) + " " + x.idle() + " " + x.moved(2) + " " + x.meanCost() + " " + x.level() + " " + x.costWith(2, 3);
    }

    /** So many plays of one tone that the way is reckoned hole by hole: each note costs what the nearest of its plays does. */
    private static void manyPlays() {
        Checks.part("section 3, many plays");
        String low = ";hole 297 2;hole 298 2;hole 299 2;limit 2 3";
        HoleWhistle x = Checks.whistle(W + ";hole 120 15" + low + ";cost 4 3 5;tune 0 12 0");
        int soft = x.plays(0);
        due(true, soft > 20);
        for (int tone : new int[] {0, 12, 16, 17}) {
            for (int other : new int[] {0, 12, 16, 17}) {
                x.setNote(0, tone);
                x.setNote(1, other);
                x.setNote(2, tone);
                int least = -1;
                for (int k = 0; k < x.plays(tone); k++) {
                    for (int j = 0; j < x.plays(other); j++) {
                        int price = 2 * x.change(x.playOf(tone, k), x.playOf(other, j));
                        least = least < 0 || price < least ? price : least;
                    }
                }
                due(least, x.cost());
            }
        }
    }

    private static void costWithAndLevel() {
        Checks.part("promises 34 and 35");
        HoleWhistle x = Checks.whistle(THREE + ";tune 0 7");
        due("2 -1 -1 -1 2 2", x.costWith(1, 1) + " " + x.costWith(0, 0) + " " + x.costWith(1, 0) + " " + x.costWith(0, 3) + " " + x.costWith(2, 3) + " " + x.cost());
        due("1 1", x.size(4) + " " + x.size(5));
        due(11, x.level());
        x.setLimits(0, 0);
        due("-1 2 11", x.cost() + " " + x.costWith(1, 1) + " " + x.level());
        Checks.noArgument(() -> x.costWith(-1, 0), () -> x.costWith(3, 0), () -> x.costWith(0, -1), () -> x.costWith(0, 4));
        due("0 0", new HoleWhistle().costWith(0, 0) + " " + new HoleWhistle().level());
        due(-1, Checks.whistle(THREE + ";tune 1").level());
        due(0, Checks.whistle(THREE + ";tune 9").level());
        due(10, Checks.whistle(THREE + ";tune 5").level());
        due(1, Checks.whistle(THREE + ";tune 8").level());
        due(11, Checks.whistle(THREE + ";tune 8 rest 5").level());
        HoleWhistle wide = Checks.whistle("whistle 300 12 49;hole 140 8;hole 170 9;hole 200 10;limit 0 0;tune 8");
        HoleWhistle dear = Checks.whistle("whistle 300 12 5;hole 140 8;hole 170 9;hole 200 10;limit 0 0;tune 10");
        due("21 -1 -1 0 0", dear.level() + " " + dear.costWith(1, 3) + " " + dear.costWith(2, 0) + " " + dear.costWith(2, 1) + " " + dear.costWith(2, 3));
        // Tones with a single play each, or with plays beyond all limits alone.
        String five = "whistle 300 12 5;hole 78 11;hole 95 11;hole 100 9;hole 255 4;hole 264 4;tune ";
        due("23 13 21 23", Checks.whistle(five + "20").level() + " " + Checks.whistle(five + "19").level() + " "
            + Checks.whistle(five + "13").level() + " " + Checks.whistle(five + "13 rest 19").level());
        due(3, Checks.whistle("whistle 300 12 5;hole 88 5;hole 155 8;hole 180 10;hole 282 3;tune 14").level());
        due(-1, Checks.whistle("whistle 300 12 5;hole 103 12;hole 192 8;hole 208 6;hole 217 11;hole 259 10;tune 6").level());
        due("1 0 0 -1", wide.level() + " " + wide.costWith(0, 1) + " " + wide.costWith(1, 0) + " " + wide.cost());
    }

    private static void setHole() {
        Checks.part("promise 36");
        HoleWhistle x = three();
        x.cover(1, 2);
        due(140, x.setHole(0, 169, 2));
        due("169 2 1211", x.hole(0, 0) + " " + x.hole(0, 1) + " " + THREE_CENTS[0]);
        due(169, x.setHole(0, 1, 15));
        due(-3, x.setHole(0, 170, 5));
        due(-3, x.setHole(1, 1, 5));
        due(-3, x.setHole(1, 200, 5));
        due(-3, x.setHole(2, 170, 5));
        due(200, x.setHole(2, 299, 5));
        due(299, x.setHole(2, 171, 5));
        due("6 1 5", x.size(12) + " " + x.size(13) + " " + x.size(15));
        Checks.noIndex(() -> x.setHole(-1, 0, 0), () -> x.setHole(3, 5, 5), () -> new HoleWhistle().setHole(0, 5, 5));
        Checks.noArgument(() -> x.setHole(0, 0, 5), () -> x.setHole(2, 300, 5), () -> x.setHole(1, 1, 1), () -> x.setHole(1, 180, 16), () -> x.setHole(0, MIN, 5));
        for (int k = 0; k < 4; k++) x.undo();
        due(THREE_LENGTHS[4], x.sounding(4));
        due(THREE_CENTS[17], x.cents(17));
    }

    private static void setNumbers() {
        Checks.part("promises 37 to 39");
        HoleWhistle x = three();
        due("11 23 0", x.setLimits(2, 3) + " " + x.setLimits(0, 0) + " " + x.setLimits(0, 3));
        due("0 3", x.size(4) + " " + x.size(5));
        due("30 5 49", x.setTolerance(5) + " " + x.setTolerance(49) + " " + x.setTolerance(49));
        due("1 9", x.setCosts(9, 8, 0) + " " + x.setCosts(1, 9, 9));
        due("1 9 9 49", x.size(6) + " " + x.size(7) + " " + x.size(8) + " " + x.size(2));
        due(8, x.size(15));
        Checks.noArgument(() -> x.setLimits(-1, 0), () -> x.setLimits(3, 0), () -> x.setLimits(0, -1), () -> x.setLimits(0, 4));
        Checks.noArgument(() -> x.setTolerance(4), () -> x.setTolerance(50), () -> x.setTolerance(MIN));
        Checks.noArgument(() -> x.setCosts(0, 1, 0), () -> x.setCosts(10, 1, 0), () -> x.setCosts(1, 0, 0), () -> x.setCosts(1, 10, 0),
            () -> x.setCosts(1, 1, -1), () -> x.setCosts(1, 1, 10));
        due("1 9 9 49", x.size(6) + " " + x.size(7) + " " + x.size(8) + " " + x.size(2));
    }

    private static void addAndSetNote() {
        Checks.part("promises 40 and 41");
        HoleWhistle x = three();
        due("0 1 2", x.addNote(24) + " " + x.addNote(-1) + " " + x.addNote(0));
        due("24 r 0", Checks.tune(x));
        due("24 -1 0", x.setNote(0, -1) + " " + x.setNote(1, 24) + " " + x.setNote(2, 0));
        due("r 24 0", Checks.tune(x));
        Checks.noArgument(() -> x.addNote(-2), () -> x.addNote(25), () -> x.setNote(0, -2), () -> x.setNote(0, 25));
        Checks.noIndex(() -> x.setNote(-1, 0), () -> x.setNote(3, 0), () -> x.setNote(3, 99));
        for (int k = 3; k < 40; k++) due(k, x.addNote(5));
        due(-2, x.addNote(5));
        Checks.noArgument(() -> x.addNote(25));
        due(8, x.size(15));
        x.undo();
        due(39, x.addNote(-1));
    }

    private static void dropNote() {
        Checks.part("promise 42");
        HoleWhistle x = Checks.whistle(THREE + ";tune 0 1 2 3 4");
        x.rewind(2);
        due("4 1 1 2 3 4", x.dropNote(0) + " " + x.size(14) + " " + Checks.tune(x));
        due("3 1 1 3 4", x.dropNote(1) + " " + x.size(14) + " " + Checks.tune(x));
        due("2 1 1 3", x.dropNote(2) + " " + x.size(14) + " " + Checks.tune(x));
        due("1 0 1", x.dropNote(1) + " " + x.size(14) + " " + Checks.tune(x));
        due("0 0 ", x.dropNote(0) + " " + x.size(14) + " " + Checks.tune(x));
        Checks.noIndex(() -> x.dropNote(0), () -> x.dropNote(-1), () -> three().dropNote(0));
        x.undo();
        x.undo();
        due("1 3 1", Checks.tune(x) + " " + x.size(14));
    }

    private static void repeat() {
        Checks.part("promise 43");
        HoleWhistle x = Checks.whistle(THREE + ";tune 0 1 rest 3");
        x.rewind(3);
        due("6 0 1 r 1 r 3", x.repeat(1, 2) + " " + Checks.tune(x));
        due("7 0 1 r 1 r 3 3", x.repeat(5, 5) + " " + Checks.tune(x));
        due("8 0 0 1 r 1 r 3 3", x.repeat(0, 0) + " " + Checks.tune(x));
        due("16 3", x.repeat(0, 7) + " " + x.size(14));
        Checks.noIndex(() -> x.repeat(-1, 0), () -> x.repeat(16, 0), () -> x.repeat(0, 16), () -> x.repeat(0, -1));
        Checks.noArgument(() -> x.repeat(1, 0), () -> x.repeat(15, 14));
        due(32, x.repeat(0, 15));
        due(-2, x.repeat(0, 8));
        due(40, x.repeat(0, 7));
        due(-2, x.repeat(39, 39));
        x.undo();
        x.undo();
        due("0 0 1 r 1 r 3 3 0 0 1 r 1 r 3 3", Checks.tune(x));
    }

    private static void higher() {
        Checks.part("promise 44");
        HoleWhistle x = Checks.whistle(THREE + ";tune 0 rest 12");
        due("2 12 r 24", x.higher(12) + " " + Checks.tune(x));
        due("-3 2 11 r 23", x.higher(1) + " " + x.higher(-1) + " " + Checks.tune(x));
        due("2 0 r 12", x.higher(-11) + " " + Checks.tune(x));
        due("-3 2 0 r 12", x.higher(-1) + " " + x.higher(0) + " " + Checks.tune(x));
        due(4, x.size(15));
        Checks.noArgument(() -> x.higher(13), () -> x.higher(-13), () -> x.higher(MIN));
        HoleWhistle rests = Checks.whistle(THREE + ";tune rest rest");
        due("0 0 2", rests.higher(-12) + " " + new HoleWhistle().higher(12) + " " + rests.size(10));
    }

    private static void coverAndBlow() {
        Checks.part("promises 45 and 46");
        HoleWhistle x = three();
        due("2 1", x.cover(0, 2) + " " + x.size(13));
        due("5 3", x.cover(1, 1) + " " + x.size(13));
        due("32 4", x.blow(true) + " " + x.size(13));
        due("32 4", x.blow(true) + " " + x.size(13));
        due("35 6", x.cover(1, 2) + " " + x.size(13));
        due("35 6", x.cover(1, 2) + " " + x.size(13));
        due("33 7", x.cover(0, 0) + " " + x.size(13));
        x.undo();
        due("53 7", x.cover(2, 2) + " " + x.size(13));
        due("26 8", x.blow(false) + " " + x.size(13));
        due("26 8", x.blow(false) + " " + x.size(13));
        due(8, x.size(15));
        Checks.noIndex(() -> x.cover(-1, 0), () -> x.cover(3, 0), () -> x.cover(3, 3), () -> new HoleWhistle().cover(0, 0));
        Checks.noArgument(() -> x.cover(0, -1), () -> x.cover(0, 3));
    }

    private static void step() {
        Checks.part("promise 47");
        HoleWhistle x = song();
        String[] dues = {"26 3 1", "8 4 2", "2 5 3", "0 6 4", "0 6 5", "0 6 6", "26 9 0", "26 9 1"};
        for (String s : dues) due(s, x.step() + " " + x.size(13) + " " + x.size(14));
        // The play at hand counts: from xxx strong on, 53 instead of 0.
        HoleWhistle y = song();
        y.rewind(5);
        for (int k = 0; k < 3; k++) y.cover(k, 2);
        due("53 4 6", y.step() + " " + y.size(13) + " " + y.size(14));
        due("26 5 0", y.step() + " " + y.size(13) + " " + y.size(14));
        due(-3, new HoleWhistle().step());
        HoleWhistle z = Checks.whistle(THREE + ";tune 13 rest 0 rest rest");
        due("-3 0 0", z.step() + " " + z.size(14) + " " + z.size(15));
        z.rewind(1);
        due("0 26 26 26 0", z.step() + " " + z.step() + " " + z.step() + " " + z.step() + " " + z.size(14));
        z.setNote(4, 14);
        z.rewind(1);
        due(-3, z.step());
        z.rewind(3);
        due(-3, z.step());
        due(1 + 4 + 3, z.size(15));
    }

    private static void rewind() {
        Checks.part("promise 48");
        HoleWhistle x = song();
        due("0 6 0", x.rewind(6) + " " + x.rewind(0) + " " + x.rewind(3));
        due("3 3", x.size(14) + " " + x.size(15));
        Checks.noIndex(() -> x.rewind(-1), () -> x.rewind(7), () -> x.rewind(MAX), () -> new HoleWhistle().rewind(1));
        HoleWhistle none = new HoleWhistle();
        due("0 1", none.rewind(0) + " " + none.size(15));
    }

    private static void meanCostAndFingering() {
        Checks.part("promises 49 and 50");
        due(1.0, song().meanCost());
        due(0.0, new HoleWhistle().meanCost());
        due(0.0, Checks.whistle(THREE + ";tune 12 rest 0").meanCost());
        due(0.0, Checks.whistle(THREE + ";tune 12 13").meanCost());
        due(5.0 / 3.0, Checks.whistle(THREE + ";tune 0 6 7 rest 7 6;cost 1 1 1").meanCost());
        HoleWhistle x = three();
        due(6.0f / 7.0f, x.fingering(12));
        due(0.4f, x.fingering(11));
        due(1.0f, x.fingering(0));
        due(0.0f, x.fingering(1));
        due(0.0f, Checks.whistle(THREE + ";limit 0 0").fingering(7));
        Checks.noArgument(() -> x.fingering(-1), () -> x.fingering(25));
    }

    private static void writing() {
        Checks.part("promises 51 to 53");
        HoleWhistle x = song();
        due("3 xho", x.writePlay(5) + " " + Checks.output(x));
        due("4 oox+", x.writePlay(45) + " " + Checks.output(x));
        due("15 0 6 9 12 r 12 0", "" + x.writeTune() + " " + Checks.output(x));
        Checks.noIndex(() -> x.writePlay(-1), () -> x.writePlay(54));
        due("0 6 9 12 r 12 0", Checks.output(x));
        due("48 32 48 -1 -1 -1", x.outputByte(0) + " " + x.outputByte(1) + " " + x.outputByte(14) + " " + x.outputByte(15)
            + " " + x.outputByte(-1) + " " + x.outputByte(MAX));
        HoleWhistle none = new HoleWhistle();
        due("0 1 + 0 ", none.writePlay(0) + " " + none.writePlay(1) + " " + Checks.output(none) + " " + none.writeTune() + " " + Checks.output(none));
        HoleWhistle full = Checks.whistle(W + ";tune (10 11 20 22 19)8");
        due(119, full.writeTune());
        due("10 11 20 22 19 ".repeat(8).strip(), Checks.output(full));
    }

    private static void undo() {
        Checks.part("promise 54");
        HoleWhistle x = song();
        String before = Checks.sizes(x) + Checks.tune(x) + x.hole(0, 0) + x.cost();
        due(-1, x.undo());
        x.setHole(0, 100, 15);
        x.setLimits(2, 3);
        x.setTolerance(49);
        x.setCosts(5, 6, 7);
        x.addNote(3);
        x.dropNote(0);
        x.cover(2, 1);
        x.writePlay(53);
        x.rewind(4);
        for (int k = 7; k >= 0; k--) due(k, x.undo());
        due(before, Checks.sizes(x) + Checks.tune(x) + x.hole(0, 0) + x.cost());
        due("xxx+", Checks.output(x));
        due(-1, x.undo());
        for (int k = 1; k <= 12; k++) x.blow(k % 2 == 0);
        due("8 27", x.size(15) + " " + x.size(12));
        for (int k = 7; k >= 0; k--) due(k, x.undo());
        due(-1, x.undo());
        due("27 3", x.size(12) + " " + x.size(13));
        x.higher(13 - 12);
        x.undo();
        x.repeat(0, 1);
        x.setNote(0, 24);
        x.blow(false);
        x.step();
        // What failed did not count.
        due(-3, x.higher(12));
        due(3, x.undo());
        due(2, x.undo());
        due("24 6 0 6 9 12 r 12 0", Checks.tune(x));
        due(1, x.undo());
        due("0 6 0 6 9 12 r 12 0", Checks.tune(x));
    }

    private static void snapshots() {
        Checks.part("promises 55 and 56");
        HoleWhistle x = song();
        x.cover(0, 2);
        x.rewind(3);
        due(7, x.saveSnapshot(1));
        String before = Checks.sizes(x).replaceFirst("2$", "0");
        x.setHole(2, 290, 3);
        x.addNote(4);
        x.setLimits(0, 0);
        x.writePlay(8);
        Checks.feed(x, W);
        due(-1, x.restoreSnapshot(0));
        due(5, x.size(15));
        due(7, x.restoreSnapshot(1));
        due(before, Checks.sizes(x));
        due("0 6 9 12 r 12 0 200", Checks.tune(x) + " " + x.hole(2, 0));
        due("xxo", Checks.output(x));
        due(-1, x.undo());
        due(THREE_CENTS[2], x.cents(2));
        x.setNote(0, 24);
        due(0, x.load());
        due(0, x.saveSnapshot(0));
        due(7, x.restoreSnapshot(1));
        due("0 6 9 12 r 12 0", Checks.tune(x));
        due(0, x.restoreSnapshot(0));
        due("300 12 30 0 1 1 1 2 1 0 0 2 0 0 0 0", Checks.sizes(x));
        Checks.noArgument(() -> x.saveSnapshot(-1), () -> x.saveSnapshot(2), () -> x.restoreSnapshot(-1), () -> x.restoreSnapshot(2));
    }
}
