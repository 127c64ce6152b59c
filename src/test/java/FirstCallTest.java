import java.util.ArrayList;
import java.util.List;

/** Each question as the very first call: of a new whistle, behind another one that was asked all, behind each action. */
public final class FirstCallTest {
    private static final String HOLES = ";hole 140 8;hole 170 9;hole 200 10";
    private static final String TUNE = ";tune 0 6 9 12 rest 12 0";
    private static final String SONG = "whistle 300 12 30" + HOLES + TUNE;
    private static final String SEVEN = "whistle 250 9 49;hole 60 15;hole 90 5;hole 110 9;hole 150 2;hole 170 7;hole 200 4;hole 230 12"
        + ";limit 2 3;cost 5 1 3;tune 12 0 rest 12";
    private static final String ONE = "whistle 600 20 5;hole 300 9;limit 0 0;cost 9 9 0;tune 0 12";

    private static final List<Edges.Doing> QUESTIONS = new ArrayList<>();

    public static void main(String[] args) {
        newWhistles();
        lacking();
        changing();
        behindActions();
        Checks.end("FirstCallTest");
    }

    private static void asks(Object want, Edges.Doing question) {
        QUESTIONS.add(question);
        Checks.due(want, question.on(Checks.whistle(SONG)));
        Checks.due(want, question.on(behind(SEVEN, SONG)));
        Checks.due(want, question.on(behind(ONE, SONG)));
    }

    private static void askAll(HoleWhistle x) {
        for (Edges.Doing question : QUESTIONS) question.on(x);
    }

    /** A whistle that is loaded behind another one that was asked. */
    private static HoleWhistle behind(String other, String text) {
        HoleWhistle x = Checks.whistle(other);
        x.meanCost();
        x.fingering(12);
        x.bestBy();
        x.costWith(2, 3);
        x.level();
        Checks.load(x, text);
        return x;
    }

    private static void newWhistles() {
        Checks.part("first call");
        asks(1526, x -> x.sounding(0));
        asks(2048, x -> x.sounding(23));
        asks(1211, x -> x.cents(0));
        asks(1901, x -> x.cents(50));
        asks(11, x -> x.tone(1));
        asks(24, x -> x.tone(27));
        asks(11, x -> x.off(0));
        asks(2, x -> x.halves(31));
        asks(2, x -> x.crosses(24));
        asks(false, x -> x.isEasy(4));
        asks(true, x -> x.isEasy(53));
        asks(6, x -> x.plays(12));
        asks(53, x -> x.playOf(12, 5));
        asks(-1, x -> x.playOf(12, 6));
        asks(53, x -> x.truest(12));
        asks(122910, HoleWhistle::lacking);
        asks(4, x -> x.change(0, 53));
        asks(3, x -> x.fingers(0, 53));
        asks(26, x -> x.nearest(0));
        asks(true, HoleWhistle::isPlayable);
        asks(-1, HoleWhistle::firstLacking);
        asks(4, HoleWhistle::cost);
        asks(26, x -> x.wayPlay(0));
        asks(1, x -> x.wayChange(1));
        asks(1, HoleWhistle::hardest);
        asks(1, x -> x.moved(2));
        asks(0, HoleWhistle::idle);
        asks(4, x -> x.costBy(12));
        asks(0, HoleWhistle::bestBy);
        asks(4, x -> x.costWith(0, 0));
        asks(0, HoleWhistle::level);
        asks(1.0, HoleWhistle::meanCost);
        asks(6.0f / 7.0f, x -> x.fingering(12));
    }

    /** The same of a tune that is not playable. */
    private static void lacking() {
        Checks.part("first call, not playable");
        Edges.Doing[] questions = {HoleWhistle::isPlayable, HoleWhistle::firstLacking, HoleWhistle::cost, x -> x.wayPlay(0),
            x -> x.wayChange(0), HoleWhistle::hardest, x -> x.moved(0), HoleWhistle::idle, x -> x.costBy(0), HoleWhistle::bestBy,
            x -> x.costWith(2, 3), HoleWhistle::level, HoleWhistle::step, HoleWhistle::meanCost};
        Object[] due = {false, 1, -1, -1, -1, -1, -1, -1, -1, 1, -1, -1, -3, 0.0};
        String text = "whistle 300 12 30" + HOLES + ";tune 8 4";
        for (int k = 0; k < due.length; k++) {
            Checks.due(due[k], questions[k].on(Checks.whistle(text)));
            Checks.due(due[k], questions[k].on(behind(SEVEN, text)));
            Checks.due(due[k], questions[k].on(behind(ONE, text)));
        }
    }

    /** What changes the play at hand, with what it costs. */
    private static void changing() {
        Checks.part("first call, the play at hand");
        asks("26 3 1", x -> x.step() + " " + x.size(13) + " " + x.size(14) + back(x));
        asks("18 1", x -> x.cover(2, 2) + " " + x.size(13) + back(x));
        asks("1 2", x -> x.cover(0, 1) + " " + x.size(13) + back(x));
        asks("27 1", x -> x.blow(true) + " " + x.size(13) + back(x));
        Checks.due("3 0", blown(behind(SEVEN, ONE)));
        Checks.due("3 0", blown(behind(SONG, ONE)));
        Checks.due("2187 3", blown(behind(SONG, SEVEN)));
        Checks.due("1 1", blown(behind(SONG, "whistle 300 12 30")));
    }

    private static String blown(HoleWhistle x) { return x.blow(true) + " " + x.size(13); }

    private static String back(HoleWhistle x) {
        x.undo();
        return "";
    }

    /** Behind the action each question is answered as by a whistle that was loaded so, behind its undo as ahead of it. */
    private static void behindActions() {
        behind("setHole", "whistle 300 12 30;hole 140 8;hole 170 9;hole 190 4" + TUNE, x -> x.setHole(2, 190, 4));
        behind("setLimits", SONG + ";limit 2 0", x -> x.setLimits(2, 0));
        behind("setTolerance", "whistle 300 12 7" + HOLES + TUNE, x -> x.setTolerance(7));
        behind("setCosts", SONG + ";cost 3 1 2", x -> x.setCosts(3, 1, 2));
        behind("addNote", SONG + " 24", x -> x.addNote(24));
        behind("setNote", "whistle 300 12 30" + HOLES + ";tune 23 6 9 12 rest 12 0", x -> x.setNote(0, 23));
        behind("dropNote", "whistle 300 12 30" + HOLES + ";tune 6 9 12 rest 12 0", x -> x.dropNote(0));
        behind("repeat", "whistle 300 12 30" + HOLES + ";tune 0 6 9 6 9 12 rest 12 0", x -> x.repeat(1, 2));
        behind("higher", "whistle 300 12 30" + HOLES + ";tune 12 18 21 24 rest 24 12", x -> x.higher(12));
    }

    private static void behind(String name, String text, Edges.Doing action) {
        Checks.part("behind " + name);
        for (Edges.Doing question : QUESTIONS) {
            Object due = question.on(Checks.whistle(text));
            Object ahead = question.on(Checks.whistle(SONG));
            HoleWhistle x = Checks.whistle(SONG);
            askAll(x);
            x.saveSnapshot(0);
            action.on(x);
            Checks.due(due, question.on(x));
            askAll(x);
            x.undo();
            Checks.due(ahead, question.on(x));
            action.on(x);
            // What keeps the play at hand and the tune keeps what was reckoned; undoing both goes back to the first one.
            x.rewind(0);
            askAll(x);
            x.undo();
            x.undo();
            Checks.due(ahead, question.on(x));
            action.on(x);
            askAll(x);
            x.restoreSnapshot(0);
            Checks.due(ahead, question.on(x));
        }
    }
}
