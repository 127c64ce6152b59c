/** A whistle with up to seven holes, its fingerings, and tunes with their easiest ways. */
public final class HoleWhistle {
    /** There is no such thing; a rest. */
    public static final int NONE = -1;
    /** A limit would be exceeded. */
    public static final int FULL = -2;
    /** It cannot be done as things are. */
    public static final int WRONG = -3;
    /** Returned for a number that could be negative, if there is none. */
    public static final int NOTHING = -99;

    private static final int MOST_HOLES = 7;
    private static final int MOST_NOTES = 40;
    private static final int MOST_BYTES = 400;
    private static final int MOST_ACTIONS = 8;
    private static final int MOST_BRACKETS = 4;
    private static final int MOST_HALVES = 2;
    private static final int MOST_CROSSES = 3;
    private static final int TONES = 25;
    private static final int SNAPSHOTS = 2;
    private static final int LAST_STEP = 48;
    private static final int OCTAVE = 1200;
    private static final int HIGHEST_SOFT = 4800;
    private static final int FARTHEST_BY = 12;
    private static final int FARTHEST_BEST = 6;

    /** More than any way costs, and so small that adding to it never wraps around. */
    private static final int FAR = 1000000;

    private static final int[] POWERS = {1, 3, 9, 27, 81, 243, 729, 2187};

    // A code tells a play by bits, so that changes are counted without taking numbers apart:
    // bits 0 to 6 the holes that are half covered, 7 to 13 those that are closed, 14 a strong breath.
    private static final int CLOSED_SHIFT = 7;
    private static final int STRONG_SHIFT = 14;
    private static final int HOLE_BITS = 127;
    private static final int NO_CODE = -1;

    // How much of what is reckoned from the state still holds: each level holds the ones below it.
    private static final int FRESH_NOTHING = 0;
    private static final int FRESH_PITCHES = 1;
    private static final int FRESH_CHOICE = 2;
    private static final int FRESH_WAY = 3;

    private final State now = new State();
    private final State[] past = new State[MOST_ACTIONS];
    private final int[] pastKeeps = new int[MOST_ACTIONS];
    private int pastNext = 0;
    private int pastCount = 0;
    private final State[] saved = new State[SNAPSHOTS];
    private final int[] savedThere = new int[SNAPSHOTS];
    private final Reader reader = new Reader();
    private final int[] output = new int[3 * MOST_NOTES];
    private int outputLength = 0;
    private final Fingerings fingerings = new Fingerings();
    private final Choice easy = new Choice();
    private final Choice otherEasy = new Choice();
    private final Way way = new Way();
    private final Way otherWay = new Way();
    private int fresh = FRESH_NOTHING;

    public HoleWhistle() {
        for (int k = 0; k < past.length; k++) {
            past[k] = new State();
        }
        for (int k = 0; k < saved.length; k++) {
            saved[k] = new State();
        }
    }

    // ---- descriptions ----

    public int append(long bytes) {
        return reader.take(bytes) ? reader.textLength : FULL;
    }

    public int load() {
        boolean good = reader.read();
        reader.textLength = 0;
        if (!good) {
            return -100 - reader.errorPlace;
        }
        replaceAll(reader.draft);
        return now.notes;
    }

    public int loadError() {
        return reader.error;
    }

    public int loadStatement() {
        return reader.error == 0 ? NONE : reader.statement;
    }

    // ---- the whistle and its plays ----

    public int size(int what) throws IllegalArgumentException {
        needRange(what, 0, 15);
        switch (what) {
            case 0: return now.length;
            case 1: return now.bore;
            case 2: return now.tolerance;
            case 3: return now.holes;
            case 4: return now.halves;
            case 5: return now.crosses;
            case 6: return now.move;
            case 7: return now.half;
            case 8: return now.breath;
            case 9: return now.notes;
            case 10: return now.notes - now.soundingNotes();
            case 11: return now.playCount();
            case 12: return now.play;
            case 13: return now.spent;
            case 14: return now.place;
            default: return pastCount;
        }
    }

    public int hole(int hole, int what) throws IndexOutOfBoundsException, IllegalArgumentException {
        needHole(hole);
        needRange(what, 0, 2);
        if (what == 0) {
            return at(now.places, hole);
        }
        return what == 1 ? at(now.sizes, hole) : coverOf(now.play, hole);
    }

    public int covered(int play, int hole) throws IndexOutOfBoundsException {
        needPlay(play);
        needHole(hole);
        return coverOf(play, hole);
    }

    public int sounding(int play) throws IndexOutOfBoundsException {
        needPlay(play);
        freshen(FRESH_PITCHES);
        return at(fingerings.lengths, fingerings.fingeringOf(play));
    }

    public int cents(int play) throws IndexOutOfBoundsException {
        needPlay(play);
        freshen(FRESH_PITCHES);
        return fingerings.centsOf(play);
    }

    public int tone(int play) throws IndexOutOfBoundsException {
        needPlay(play);
        freshen(FRESH_PITCHES);
        return toneOf(fingerings.centsOf(play), now.tolerance);
    }

    public int off(int play) throws IndexOutOfBoundsException {
        needPlay(play);
        freshen(FRESH_PITCHES);
        int above = fingerings.centsOf(play) % 100;
        return above <= 50 ? above : above - 100;
    }

    public int halves(int play) throws IndexOutOfBoundsException {
        needPlay(play);
        freshen(FRESH_PITCHES);
        return at(fingerings.halves, fingerings.fingeringOf(play));
    }

    public int crosses(int play) throws IndexOutOfBoundsException {
        needPlay(play);
        freshen(FRESH_PITCHES);
        return at(fingerings.crosses, fingerings.fingeringOf(play));
    }

    public boolean isEasy(int play) throws IndexOutOfBoundsException {
        needPlay(play);
        freshen(FRESH_PITCHES);
        int fingering = fingerings.fingeringOf(play);
        return at(fingerings.halves, fingering) <= now.halves && at(fingerings.crosses, fingering) <= now.crosses;
    }

    public int plays(int tone) throws IllegalArgumentException {
        needTone(tone);
        freshen(FRESH_CHOICE);
        return easy.countOf(tone);
    }

    public int playOf(int tone, int index) throws IllegalArgumentException {
        needTone(tone);
        freshen(FRESH_CHOICE);
        if (index < 0 || index >= easy.countOf(tone)) {
            return NONE;
        }
        return at(easy.plays, easy.firstOf(tone) + index);
    }

    public int truest(int tone) throws IllegalArgumentException {
        needTone(tone);
        freshen(FRESH_CHOICE);
        int best = NONE;
        int least = FAR;
        int end = easy.firstOf(tone + 1);
        for (int k = easy.firstOf(tone); k < end; k++) {
            int play = at(easy.plays, k);
            int amiss = Math.abs(fingerings.centsOf(play) - 100 * tone);
            if (amiss < least) {
                least = amiss;
                best = play;
            }
        }
        return best;
    }

    public int lacking() {
        freshen(FRESH_CHOICE);
        int sum = 0;
        for (int tone = 0; tone < TONES; tone++) {
            if (easy.countOf(tone) == 0) {
                sum += 1 << tone;
            }
        }
        return sum;
    }

    public float fingering(int tone) throws IllegalArgumentException {
        needTone(tone);
        freshen(FRESH_CHOICE);
        int all = at(easy.all, tone);
        return all == 0 ? 0.0f : (float) easy.countOf(tone) / (float) all;
    }

    // ---- changes ----

    public int change(int one, int other) throws IndexOutOfBoundsException {
        needPlay(one);
        needPlay(other);
        freshen(FRESH_PITCHES);
        return changeCost(one, other);
    }

    public int fingers(int one, int other) throws IndexOutOfBoundsException {
        needPlay(one);
        needPlay(other);
        freshen(FRESH_PITCHES);
        return Integer.bitCount(differingHoles(fingerings.codeOf(one), fingerings.codeOf(other)));
    }

    public int nearest(int tone) throws IllegalArgumentException {
        needTone(tone);
        freshen(FRESH_CHOICE);
        int code = fingerings.codeOf(now.play);
        int best = NONE;
        int least = FAR;
        int end = easy.firstOf(tone + 1);
        for (int k = easy.firstOf(tone); k < end; k++) {
            int price = now.priceOf(code, at(easy.codes, k));
            if (price < least) {
                least = price;
                best = at(easy.plays, k);
            }
        }
        return best;
    }

    // ---- the tune and its easiest way ----

    public int note(int note) throws IndexOutOfBoundsException {
        needNote(note);
        return at(now.tune, note);
    }

    public boolean isPlayable() {
        freshen(FRESH_CHOICE);
        return easy.lackingFrom(now, 0, 0) == NONE;
    }

    public int firstLacking() {
        freshen(FRESH_CHOICE);
        return easy.lackingFrom(now, 0, 0);
    }

    public int cost() {
        freshen(FRESH_WAY);
        return way.total;
    }

    public int wayPlay(int note) throws IndexOutOfBoundsException {
        needNote(note);
        freshen(FRESH_WAY);
        return way.total == NONE ? NONE : at(way.chosen, note);
    }

    public int wayChange(int note) throws IndexOutOfBoundsException {
        needNote(note);
        freshen(FRESH_WAY);
        return way.total == NONE ? NONE : way.priceTo(now, note);
    }

    public int hardest() {
        freshen(FRESH_WAY);
        if (way.total == NONE) {
            return NONE;
        }
        int best = NONE;
        int most = -1;
        for (int note = 0; note < now.notes; note++) {
            int price = way.priceTo(now, note);
            if (price > most) {
                most = price;
                best = note;
            }
        }
        return best;
    }

    public int moved(int hole) throws IndexOutOfBoundsException {
        needHole(hole);
        freshen(FRESH_WAY);
        if (way.total == NONE) {
            return NONE;
        }
        int count = 0;
        for (int note = 1; note < now.notes; note++) {
            if (way.isChangeTo(note)) {
                int differing = differingHoles(at(way.codes, note - 1), at(way.codes, note));
                count += differing >> hole & 1;
            }
        }
        return count;
    }

    public int idle() {
        freshen(FRESH_WAY);
        if (way.total == NONE) {
            return NONE;
        }
        int first = NO_CODE;
        int differing = 0;
        for (int note = 0; note < now.notes; note++) {
            int code = at(way.codes, note);
            if (code != NO_CODE) {
                first = first == NO_CODE ? code : first;
                differing |= differingHoles(first, code);
            }
        }
        return ((1 << now.holes) - 1) & ~differing;
    }

    public double meanCost() {
        freshen(FRESH_WAY);
        if (way.total == NONE) {
            return 0.0;
        }
        int changes = 0;
        for (int note = 1; note < now.notes; note++) {
            changes += way.isChangeTo(note) ? 1 : 0;
        }
        return changes == 0 ? 0.0 : (double) way.total / (double) changes;
    }

    // ---- predictions ----

    public int costBy(int by) throws IllegalArgumentException {
        needRange(by, -FARTHEST_BY, FARTHEST_BY);
        freshen(FRESH_CHOICE);
        return otherCost(easy, by);
    }

    public int bestBy() {
        freshen(FRESH_CHOICE);
        int best = NOTHING;
        int least = FAR;
        for (int turn = 0; turn <= 2 * FARTHEST_BEST; turn++) {
            int distance = (turn + 1) / 2;
            int by = turn % 2 == 1 ? distance : -distance;
            int price = otherCost(easy, by);
            if (price != NONE && price < least) {
                least = price;
                best = by;
            }
        }
        return best;
    }

    public int costWith(int halves, int crosses) throws IllegalArgumentException {
        needLimits(halves, crosses);
        freshen(FRESH_PITCHES);
        otherEasy.choose(fingerings, now.tolerance, halves, crosses);
        return otherCost(otherEasy, 0);
    }

    public int level() {
        freshen(FRESH_CHOICE);
        for (int together = 0; together <= MOST_HALVES + MOST_CROSSES; together++) {
            for (int halves = 0; halves <= MOST_HALVES; halves++) {
                int crosses = together - halves;
                if (crosses >= 0 && crosses <= MOST_CROSSES && isPlayableWithin(halves, crosses)) {
                    return 10 * halves + crosses;
                }
            }
        }
        return NONE;
    }

    // ---- actions on the whistle ----

    public int setHole(int hole, int place, int size) throws IndexOutOfBoundsException, IllegalArgumentException {
        needHole(hole);
        needRange(place, 1, now.length - 1);
        needRange(size, 2, 15);
        boolean aboveLast = hole == 0 || place > at(now.places, hole - 1);
        boolean belowNext = hole == now.holes - 1 || place < at(now.places, hole + 1);
        if (!aboveLast || !belowNext) {
            return WRONG;
        }
        remember(FRESH_NOTHING);
        int previous = at(now.places, hole);
        put(now.places, hole, place);
        put(now.sizes, hole, size);
        return previous;
    }

    public int setLimits(int halves, int crosses) throws IllegalArgumentException {
        needLimits(halves, crosses);
        remember(FRESH_PITCHES);
        int previous = 10 * now.halves + now.crosses;
        now.halves = halves;
        now.crosses = crosses;
        return previous;
    }

    public int setTolerance(int tolerance) throws IllegalArgumentException {
        needRange(tolerance, 5, 49);
        remember(FRESH_PITCHES);
        int previous = now.tolerance;
        now.tolerance = tolerance;
        return previous;
    }

    public int setCosts(int move, int half, int breath) throws IllegalArgumentException {
        needRange(move, 1, 9);
        needRange(half, 1, 9);
        needRange(breath, 0, 9);
        remember(FRESH_CHOICE);
        int previous = now.move;
        now.move = move;
        now.half = half;
        now.breath = breath;
        return previous;
    }

    // ---- actions on the tune ----

    public int addNote(int tone) throws IllegalArgumentException {
        needRange(tone, NONE, TONES - 1);
        if (now.notes >= MOST_NOTES) {
            return FULL;
        }
        remember(FRESH_CHOICE);
        put(now.tune, now.notes, tone);
        now.notes++;
        return now.notes - 1;
    }

    public int setNote(int note, int tone) throws IndexOutOfBoundsException, IllegalArgumentException {
        needNote(note);
        needRange(tone, NONE, TONES - 1);
        remember(FRESH_CHOICE);
        int previous = at(now.tune, note);
        put(now.tune, note, tone);
        return previous;
    }

    public int dropNote(int note) throws IndexOutOfBoundsException {
        needNote(note);
        remember(FRESH_CHOICE);
        for (int k = note; k < now.notes - 1; k++) {
            put(now.tune, k, at(now.tune, k + 1));
        }
        now.notes--;
        if (now.place > note) {
            now.place--;
        }
        if (now.place >= now.notes) {
            now.place = 0;
        }
        return now.notes;
    }

    public int repeat(int from, int to) throws IndexOutOfBoundsException, IllegalArgumentException {
        needNote(from);
        needNote(to);
        if (to < from) {
            throw new IllegalArgumentException();
        }
        int more = to - from + 1;
        if (now.notes + more > MOST_NOTES) {
            return FULL;
        }
        remember(FRESH_CHOICE);
        // Moving all from the first note on leaves a copy of the repeated ones where they were.
        for (int k = now.notes - 1; k >= from; k--) {
            put(now.tune, k + more, at(now.tune, k));
        }
        now.notes += more;
        return now.notes;
    }

    public int higher(int by) throws IllegalArgumentException {
        needRange(by, -FARTHEST_BY, FARTHEST_BY);
        for (int note = 0; note < now.notes; note++) {
            int tone = at(now.tune, note);
            if (tone != NONE && !isTone(tone + by)) {
                return WRONG;
            }
        }
        remember(FRESH_CHOICE);
        for (int note = 0; note < now.notes; note++) {
            int tone = at(now.tune, note);
            put(now.tune, note, tone == NONE ? NONE : tone + by);
        }
        return now.soundingNotes();
    }

    // ---- actions on the play at hand ----

    public int cover(int hole, int how) throws IndexOutOfBoundsException, IllegalArgumentException {
        needHole(hole);
        needRange(how, 0, 2);
        freshen(FRESH_PITCHES);
        remember(FRESH_WAY);
        turnTo(now.play + (how - coverOf(now.play, hole)) * at(POWERS, hole));
        return now.play;
    }

    public int blow(boolean strong) {
        freshen(FRESH_PITCHES);
        remember(FRESH_WAY);
        int count = now.fingeringCount();
        int soft = now.play >= count ? now.play - count : now.play;
        turnTo(strong ? soft + count : soft);
        return now.play;
    }

    public int step() {
        freshen(FRESH_CHOICE);
        if (now.notes == 0 || easy.lackingFrom(now, now.place, 0) != NONE) {
            return WRONG;
        }
        remember(FRESH_WAY);
        int tone = at(now.tune, now.place);
        if (tone != NONE) {
            freshen(FRESH_WAY);
            int index = way.pick(now, easy, now.place, tone, fingerings.codeOf(now.play));
            turnTo(at(easy.plays, index));
        }
        now.place = now.place + 1 < now.notes ? now.place + 1 : 0;
        return now.play;
    }

    public int rewind(int place) throws IndexOutOfBoundsException {
        if (place != 0) {
            needNote(place);
        }
        remember(FRESH_WAY);
        int previous = now.place;
        now.place = place;
        return previous;
    }

    // ---- the output ----

    public int writePlay(int play) throws IndexOutOfBoundsException {
        needPlay(play);
        outputLength = 0;
        for (int hole = 0; hole < now.holes; hole++) {
            int how = coverOf(play, hole);
            write(how == 0 ? 'o' : how == 1 ? 'h' : 'x');
        }
        if (play >= now.fingeringCount()) {
            write('+');
        }
        return outputLength;
    }

    public int writeTune() {
        outputLength = 0;
        for (int note = 0; note < now.notes; note++) {
            if (note > 0) {
                write(' ');
            }
            int tone = at(now.tune, note);
            if (tone == NONE) {
                write('r');
                continue;
            }
            if (tone >= 10) {
                write('0' + tone / 10);
            }
            write('0' + tone % 10);
        }
        return outputLength;
    }

    public int outputByte(int index) {
        return index >= 0 && index < outputLength ? at(output, index) : NONE;
    }

    // ---- taking back and keeping ----

    public int undo() {
        if (pastCount == 0) {
            return NONE;
        }
        pastCount--;
        pastNext = (pastNext + MOST_ACTIONS - 1) % MOST_ACTIONS;
        State then = stateAt(past, pastNext);
        if (then != null) {
            now.copyFrom(then);
        }
        fresh = Math.min(fresh, at(pastKeeps, pastNext));
        return pastCount;
    }

    public int saveSnapshot(int slot) throws IllegalArgumentException {
        needRange(slot, 0, SNAPSHOTS - 1);
        State kept = stateAt(saved, slot);
        if (kept != null) {
            kept.copyFrom(now);
            put(savedThere, slot, 1);
        }
        return now.notes;
    }

    public int restoreSnapshot(int slot) throws IllegalArgumentException {
        needRange(slot, 0, SNAPSHOTS - 1);
        State kept = stateAt(saved, slot);
        if (kept == null || at(savedThere, slot) == 0) {
            return NONE;
        }
        replaceAll(kept);
        return now.notes;
    }

    // ---- what the methods above share ----

    private void needRange(int number, int least, int most) {
        if (number < least || number > most) {
            throw new IllegalArgumentException();
        }
    }

    private void needTone(int tone) {
        needRange(tone, 0, TONES - 1);
    }

    private void needLimits(int halves, int crosses) {
        needRange(halves, 0, MOST_HALVES);
        needRange(crosses, 0, MOST_CROSSES);
    }

    private void needIndex(int index, int count) {
        if (index < 0 || index >= count) {
            throw new IndexOutOfBoundsException();
        }
    }

    private void needPlay(int play) {
        needIndex(play, now.playCount());
    }

    private void needHole(int hole) {
        needIndex(hole, now.holes);
    }

    private void needNote(int note) {
        needIndex(note, now.notes);
    }

    /** Keeps the state for undo; keeps is how much of what was reckoned the action leaves true. */
    private void remember(int keeps) {
        State then = stateAt(past, pastNext);
        if (then != null) {
            then.copyFrom(now);
        }
        put(pastKeeps, pastNext, keeps);
        pastNext = (pastNext + 1) % MOST_ACTIONS;
        pastCount = Math.min(pastCount + 1, MOST_ACTIONS);
        fresh = Math.min(fresh, keeps);
    }

    private void replaceAll(State other) {
        now.copyFrom(other);
        pastCount = 0;
        fresh = FRESH_NOTHING;
    }

    private void freshen(int level) {
        if (level >= FRESH_PITCHES && fresh < FRESH_PITCHES) {
            fingerings.reckon(now);
            fresh = FRESH_PITCHES;
        }
        if (level >= FRESH_CHOICE && fresh < FRESH_CHOICE) {
            easy.choose(fingerings, now.tolerance, now.halves, now.crosses);
            fresh = FRESH_CHOICE;
        }
        if (level >= FRESH_WAY && fresh < FRESH_WAY) {
            way.find(now, easy, 0);
            fresh = FRESH_WAY;
        }
    }

    private int changeCost(int one, int other) {
        return now.priceOf(fingerings.codeOf(one), fingerings.codeOf(other));
    }

    private void turnTo(int play) {
        now.spent += changeCost(now.play, play);
        now.play = play;
    }

    private int otherCost(Choice choice, int by) {
        if (choice.lackingFrom(now, 0, by) != NONE) {
            return NONE;
        }
        otherWay.find(now, choice, by);
        return otherWay.total;
    }

    private boolean isPlayableWithin(int halves, int crosses) {
        for (int note = 0; note < now.notes; note++) {
            int tone = at(now.tune, note);
            if (tone != NONE && !easy.isPossible(tone, halves, crosses)) {
                return false;
            }
        }
        return true;
    }

    private void write(int sign) {
        put(output, outputLength, sign);
        outputLength++;
    }

    private static State stateAt(State[] row, int index) {
        return index >= 0 && index < row.length ? row[index] : null;
    }

    private static int at(int[] row, int index) {
        return index >= 0 && index < row.length ? row[index] : 0;
    }

    private static void put(int[] row, int index, int number) {
        if (index >= 0 && index < row.length) {
            row[index] = number;
        }
    }

    private static int quotient(int number, int divisor) {
        return divisor > 0 ? number / divisor : 0;
    }

    private static boolean isTone(int tone) {
        return tone >= 0 && tone < TONES;
    }

    /** The strong breath does not disturb: 3^holes has no digit at any hole. */
    private static int coverOf(int play, int hole) {
        return quotient(play, at(POWERS, hole)) % 3;
    }

    private static int toneOf(int cents, int tolerance) {
        int tone = (cents + 50) / 100;
        return isTone(tone) && Math.abs(cents - 100 * tone) <= tolerance ? tone : NONE;
    }

    private static int differingHoles(int oneCode, int otherCode) {
        int differing = oneCode ^ otherCode;
        return (differing | differing >> CLOSED_SHIFT) & HOLE_BITS;
    }

    /** All that actions change and snapshots keep. */
    private static final class State {
        private int length = 300;
        private int bore = 12;
        private int tolerance = 30;
        private int halves = 1;
        private int crosses = 1;
        private int move = 1;
        private int half = 2;
        private int breath = 1;
        private int holes = 0;
        private int notes = 0;
        private int play = 0;
        private int spent = 0;
        private int place = 0;
        private final int[] places = new int[MOST_HOLES];
        private final int[] sizes = new int[MOST_HOLES];
        private final int[] tune = new int[MOST_NOTES];

        private void beginAnew() {
            halves = 1;
            crosses = 1;
            move = 1;
            half = 2;
            breath = 1;
            holes = 0;
            notes = 0;
            play = 0;
            spent = 0;
            place = 0;
        }

        private void copyFrom(State other) {
            length = other.length;
            bore = other.bore;
            tolerance = other.tolerance;
            halves = other.halves;
            crosses = other.crosses;
            move = other.move;
            half = other.half;
            breath = other.breath;
            holes = other.holes;
            notes = other.notes;
            play = other.play;
            spent = other.spent;
            place = other.place;
            copyRow(other.places, places, holes);
            copyRow(other.sizes, sizes, holes);
            copyRow(other.tune, tune, notes);
        }

        private static void copyRow(int[] from, int[] to, int count) {
            for (int k = 0; k < count; k++) {
                put(to, k, at(from, k));
            }
        }

        private int fingeringCount() {
            return at(POWERS, holes);
        }

        private int playCount() {
            return 2 * at(POWERS, holes);
        }

        private boolean isRest(int note) {
            return at(tune, note) == NONE;
        }

        private int soundingNotes() {
            int count = 0;
            for (int note = 0; note < notes; note++) {
                count += isRest(note) ? 0 : 1;
            }
            return count;
        }

        private int priceOf(int oneCode, int otherCode) {
            int differing = differingHoles(oneCode, otherCode);
            int halfway = Integer.bitCount(differing & (oneCode | otherCode));
            int moves = Integer.bitCount(differing) - halfway;
            return move * moves + half * halfway + breath * ((oneCode ^ otherCode) >> STRONG_SHIFT & 1);
        }
    }

    /** What each fingering covers and how it sounds; the rows only grow, so that reckoning anew takes no room. */
    private static final class Fingerings {
        private int count = 1;
        private int[] codes = new int[1];
        private int[] halves = new int[1];
        private int[] crosses = new int[1];
        private int[] lengths = new int[1];
        private int[] cents = new int[1];
        private final int[] steps = new int[LAST_STEP + 1];

        private void reckon(State state) {
            count = state.fingeringCount();
            if (count > codes.length) {
                growTo(count);
            }
            int whole = 10 * state.length + 6 * state.bore;
            layLengths(state, whole);
            laySteps(whole);
            for (int fingering = 0; fingering < count; fingering++) {
                put(cents, fingering, pitchOf(at(lengths, fingering)));
            }
        }

        /** What is covered depends on the number alone: the rows of fewer holes begin those of more. */
        private void growTo(int size) {
            codes = new int[size];
            halves = new int[size];
            crosses = new int[size];
            lengths = new int[size];
            cents = new int[size];
            for (int hole = 0; hole < MOST_HOLES && at(POWERS, hole) < size; hole++) {
                int power = at(POWERS, hole);
                for (int lower = 0; lower < power; lower++) {
                    layCovers(lower, power, hole);
                }
            }
        }

        private void layCovers(int lower, int power, int hole) {
            int halfway = lower + power;
            put(codes, halfway, at(codes, lower) | 1 << hole);
            put(halves, halfway, at(halves, lower) + 1);
            put(crosses, halfway, at(crosses, lower));
            int closed = halfway + power;
            boolean allClosedBelow = lower == power - 1;
            put(codes, closed, at(codes, lower) | 1 << hole + CLOSED_SHIFT);
            put(halves, closed, at(halves, lower));
            put(crosses, closed, at(crosses, lower) + (allClosedBelow ? 0 : 1));
        }

        /** From the last hole to the first one, each length splits in three by how the hole is covered. */
        private void layLengths(State state, int whole) {
            put(lengths, 0, whole);
            for (int hole = state.holes - 1; hole >= 0; hole--) {
                int power = Math.max(1, at(POWERS, hole));
                int size = at(state.sizes, hole);
                int place = at(state.places, hole);
                for (int open = 0; open < count; open += 3 * power) {
                    int length = at(lengths, open);
                    put(lengths, open, lengthBy(state.bore, place, size, length));
                    put(lengths, open + power, lengthBy(state.bore, place, (size + 1) / 2, length));
                    put(lengths, open + 2 * power, length);
                }
            }
        }

        private static int lengthBy(int bore, int place, int strength, int length) {
            int own = 10 * place + quotient(5 * bore * bore, strength);
            return own < length ? own + quotient(length - own, 1 + strength) : length;
        }

        private void laySteps(int whole) {
            long step = 1000L * whole;
            for (int k = 0; k <= LAST_STEP; k++) {
                put(steps, k, (int) step);
                step = step * 94387 / 100000;
            }
        }

        private int pitchOf(int length) {
            int wanted = 1000 * length;
            int n = 0;
            while (n < LAST_STEP - 1 && at(steps, n + 1) >= wanted) {
                n++;
            }
            int step = at(steps, n);
            int pitch = 100 * n + quotient(100 * (step - wanted), step - at(steps, n + 1));
            return Math.min(pitch, HIGHEST_SOFT);
        }

        private int fingeringOf(int play) {
            return play < count ? play : play - count;
        }

        private int centsOf(int play) {
            return at(cents, fingeringOf(play)) + (play < count ? 0 : OCTAVE);
        }

        private int codeOf(int play) {
            return at(codes, fingeringOf(play)) | (play < count ? 0 : 1 << STRONG_SHIFT);
        }
    }

    /** The easy plays of each tone with some limits, those of a tone side by side and by their numbers. */
    private static final class Choice {
        private final int[] firsts = new int[TONES + 1];
        private final int[] nexts = new int[TONES];
        private final int[] all = new int[TONES];
        private final int[] limits = new int[TONES];
        private int[] tones = new int[2];
        private int[] plays = new int[2];
        private int[] codes = new int[2];

        private void choose(Fingerings from, int tolerance, int halves, int crosses) {
            int count = 2 * from.count;
            if (count > plays.length) {
                tones = new int[count];
                plays = new int[count];
                codes = new int[count];
            }
            for (int tone = 0; tone < TONES; tone++) {
                put(all, tone, 0);
                put(limits, tone, 0);
                put(nexts, tone, 0);
            }
            for (int play = 0; play < count; play++) {
                int tone = toneOf(from.centsOf(play), tolerance);
                put(tones, play, countIfEasy(from, play, tone, halves, crosses) ? tone : NONE);
            }
            layFirsts();
            for (int play = 0; play < count; play++) {
                place(play, at(tones, play), from);
            }
        }

        /** Counts a play among all of its tone, and among the easy ones if it is one; tells whether it is. */
        private boolean countIfEasy(Fingerings from, int play, int tone, int halves, int crosses) {
            if (tone == NONE) {
                return false;
            }
            put(all, tone, at(all, tone) + 1);
            int itsHalves = at(from.halves, from.fingeringOf(play));
            int itsCrosses = at(from.crosses, from.fingeringOf(play));
            if (itsHalves <= MOST_HALVES && itsCrosses <= MOST_CROSSES) {
                put(limits, tone, at(limits, tone) | limitBit(itsHalves, itsCrosses));
            }
            if (itsHalves > halves || itsCrosses > crosses) {
                return false;
            }
            put(nexts, tone, at(nexts, tone) + 1);
            return true;
        }

        /** From how many plays the tones have to where those of each one begin. */
        private void layFirsts() {
            int first = 0;
            for (int tone = 0; tone < TONES; tone++) {
                int count = at(nexts, tone);
                put(firsts, tone, first);
                put(nexts, tone, first);
                first += count;
            }
            put(firsts, TONES, first);
        }

        private void place(int play, int tone, Fingerings from) {
            if (tone == NONE) {
                return;
            }
            int next = at(nexts, tone);
            put(plays, next, play);
            put(codes, next, from.codeOf(play));
            put(nexts, tone, next + 1);
        }

        private int firstOf(int tone) {
            return at(firsts, tone);
        }

        private int countOf(int tone) {
            return isTone(tone) ? at(firsts, tone + 1) - at(firsts, tone) : 0;
        }

        private static int limitBit(int halves, int crosses) {
            return 1 << halves * (MOST_CROSSES + 1) + crosses;
        }

        private boolean isPossible(int tone, int halves, int crosses) {
            for (int h = 0; h <= halves; h++) {
                for (int c = 0; c <= crosses; c++) {
                    if ((at(limits, tone) & limitBit(h, c)) != 0) {
                        return true;
                    }
                }
            }
            return false;
        }

        /** The first note from a place on that is no rest and has no play, if all were higher by some semitones. */
        private int lackingFrom(State state, int place, int by) {
            for (int note = place; note < state.notes; note++) {
                if (!state.isRest(note) && countOf(at(state.tune, note) + by) == 0) {
                    return note;
                }
            }
            return NONE;
        }
    }

    /** The easiest way of a tune. */
    private static final class Way {
        /** Its cost; NONE if there is none. */
        private int total = 0;
        private final int[] chosen = new int[MOST_NOTES];
        private final int[] codes = new int[MOST_NOTES];
        /** Where the costs of each note begin in aheads: one for each of its plays. */
        private final int[] rows = new int[MOST_NOTES];
        /** What the notes behind cost at least, from a play on up to the next rest. */
        private int[] aheads = new int[2];
        private int[] field = new int[2];

        private void find(State state, Choice choice, int by) {
            layRows(state, choice, by);
            for (int note = state.notes - 1; note >= 0; note--) {
                if (!state.isRest(note)) {
                    reckonRow(state, choice, note, by);
                }
            }
            total = 0;
            for (int note = 0; note < state.notes && total != NONE; note++) {
                chooseAt(state, choice, note, by);
            }
        }

        private void layRows(State state, Choice choice, int by) {
            int length = 0;
            for (int note = 0; note < state.notes; note++) {
                put(rows, note, length);
                length += state.isRest(note) ? 0 : choice.countOf(at(state.tune, note) + by);
            }
            if (length > aheads.length) {
                // Doubling keeps the room of all rows that were ever made small.
                aheads = new int[Math.max(length, 2 * aheads.length)];
            }
        }

        private void reckonRow(State state, Choice choice, int note, int by) {
            int tone = at(state.tune, note) + by;
            int count = choice.countOf(tone);
            if (note + 1 >= state.notes || state.isRest(note + 1)) {
                for (int k = 0; k < count; k++) {
                    put(aheads, at(rows, note) + k, 0);
                }
                return;
            }
            int nextTone = at(state.tune, note + 1) + by;
            // Both give the same; many pairs of plays are dearer than all plays hole by hole.
            if (3 * count * choice.countOf(nextTone) <= state.playCount() * (state.holes + 1)) {
                reckonByPairs(state, choice, note, tone, nextTone);
            } else {
                reckonByHoles(state, choice, note, tone, nextTone);
            }
        }

        private void reckonByPairs(State state, Choice choice, int note, int tone, int nextTone) {
            int first = choice.firstOf(tone);
            int count = choice.countOf(tone);
            int nextFirst = choice.firstOf(nextTone);
            int nextCount = choice.countOf(nextTone);
            int nextRow = at(rows, note + 1);
            for (int k = 0; k < count; k++) {
                int code = at(choice.codes, first + k);
                int least = FAR;
                for (int j = 0; j < nextCount; j++) {
                    int price = state.priceOf(code, at(choice.codes, nextFirst + j)) + at(aheads, nextRow + j);
                    least = Math.min(least, price);
                }
                put(aheads, at(rows, note) + k, least);
            }
        }

        /** A change costs its holes and its breath added: so the least over all plays is the least for one after another. */
        private void reckonByHoles(State state, Choice choice, int note, int tone, int nextTone) {
            int playCount = state.playCount();
            if (playCount > field.length) {
                field = new int[playCount];
            }
            for (int play = 0; play < playCount; play++) {
                put(field, play, FAR);
            }
            int nextCount = choice.countOf(nextTone);
            for (int j = 0; j < nextCount; j++) {
                put(field, at(choice.plays, choice.firstOf(nextTone) + j), at(aheads, at(rows, note + 1) + j));
            }
            for (int hole = 0; hole < state.holes; hole++) {
                spreadHole(state, hole, playCount);
            }
            spreadBreath(state.breath, state.fingeringCount());
            int count = choice.countOf(tone);
            for (int k = 0; k < count; k++) {
                put(aheads, at(rows, note) + k, at(field, at(choice.plays, choice.firstOf(tone) + k)));
            }
        }

        private void spreadHole(State state, int hole, int playCount) {
            int power = Math.max(1, at(POWERS, hole));
            for (int block = 0; block < playCount; block += 3 * power) {
                for (int play = block; play < block + power; play++) {
                    int open = at(field, play);
                    int halfway = at(field, play + power);
                    int closed = at(field, play + 2 * power);
                    int byHalf = halfway + state.half;
                    put(field, play, Math.min(open, Math.min(byHalf, closed + state.move)));
                    put(field, play + power, Math.min(halfway, Math.min(open, closed) + state.half));
                    put(field, play + 2 * power, Math.min(closed, Math.min(byHalf, open + state.move)));
                }
            }
        }

        private void spreadBreath(int breath, int count) {
            for (int play = 0; play < count; play++) {
                int soft = at(field, play);
                int strong = at(field, play + count);
                put(field, play, Math.min(soft, strong + breath));
                put(field, play + count, Math.min(strong, soft + breath));
            }
        }

        private void chooseAt(State state, Choice choice, int note, int by) {
            if (state.isRest(note)) {
                put(chosen, note, NONE);
                put(codes, note, NO_CODE);
                return;
            }
            int last = note == 0 ? NO_CODE : at(codes, note - 1);
            int index = pick(state, choice, note, at(state.tune, note) + by, last);
            if (index == NONE) {
                total = NONE;
                return;
            }
            put(chosen, note, at(choice.plays, index));
            put(codes, note, at(choice.codes, index));
            total += priceTo(state, note);
        }

        /** The place in the choice of the lowest play of a note with which the notes from there on cost least. */
        private int pick(State state, Choice choice, int note, int tone, int lastCode) {
            int first = choice.firstOf(tone);
            int count = choice.countOf(tone);
            int best = NONE;
            int least = 2 * FAR;
            for (int k = 0; k < count; k++) {
                int price = at(aheads, at(rows, note) + k);
                if (lastCode != NO_CODE) {
                    price += state.priceOf(lastCode, at(choice.codes, first + k));
                }
                if (price < least) {
                    least = price;
                    best = first + k;
                }
            }
            return best;
        }

        private boolean isChangeTo(int note) {
            return note > 0 && at(codes, note - 1) != NO_CODE && at(codes, note) != NO_CODE;
        }

        private int priceTo(State state, int note) {
            return isChangeTo(note) ? state.priceOf(at(codes, note - 1), at(codes, note)) : 0;
        }
    }

    /** Reads a description into a draft. */
    private static final class Reader {
        private final int[] text = new int[MOST_BYTES];
        private int textLength = 0;
        private int error = 0;
        private int errorPlace = 0;
        private int statement = 0;
        private final State draft = new State();
        private int pos = 0;
        /** The first byte of the latest word or number. */
        private int start = 0;
        private int number = 0;
        private boolean hasTune = false;
        private int open = 0;
        /** How many notes were ahead of each open bracket. */
        private final int[] opened = new int[MOST_BRACKETS];

        private boolean take(long bytes) {
            int more = 0;
            for (int shift = 56; shift >= 0; shift -= 8) {
                more += (bytes >>> shift & 255) == 0 ? 0 : 1;
            }
            if (textLength + more > MOST_BYTES) {
                return false;
            }
            for (int shift = 56; shift >= 0; shift -= 8) {
                int one = (int) (bytes >>> shift & 255);
                if (one != 0) {
                    put(text, textLength, one);
                    textLength++;
                }
            }
            return true;
        }

        private boolean read() {
            error = 0;
            errorPlace = 0;
            statement = 0;
            pos = 0;
            hasTune = false;
            draft.beginAnew();
            boolean good = readWhistle();
            // Each further statement takes a semicolon at least.
            for (int turn = 0; turn < MOST_BYTES && good && !isAtEnd(); turn++) {
                good = readSemicolon() && readStatement();
            }
            return good;
        }

        private boolean fail(int kind, int place) {
            error = kind;
            errorPlace = place;
            return false;
        }

        private int sign() {
            return pos >= 0 && pos < textLength && pos < text.length ? text[pos] : NONE;
        }

        private static boolean isDigit(int sign) {
            return sign >= '0' && sign <= '9';
        }

        private static boolean isLetter(int sign) {
            return sign >= 'a' && sign <= 'z';
        }

        private void skipSpaces() {
            int end = Math.min(textLength, text.length);
            while (pos >= 0 && pos < end && text[pos] == ' ') {
                pos++;
            }
        }

        private boolean isAtEnd() {
            skipSpaces();
            return pos >= textLength;
        }

        private boolean readSemicolon() {
            if (sign() != ';') {
                return fail(1, pos);
            }
            pos++;
            statement++;
            return true;
        }

        private void readWord() {
            skipSpaces();
            start = pos;
            while (pos < textLength && isLetter(sign())) {
                pos++;
            }
        }

        private boolean isWord(String word) {
            if (pos - start != word.length()) {
                return false;
            }
            for (int k = 0; k < word.length(); k++) {
                if (at(text, start + k) != word.charAt(k)) {
                    return false;
                }
            }
            return true;
        }

        private boolean readNumber(int least, int most) {
            skipSpaces();
            start = pos;
            if (!isDigit(sign())) {
                return fail(1, pos);
            }
            number = 0;
            while (pos < textLength && isDigit(sign())) {
                // A long number stays too great for every range.
                number = Math.min(10 * number + sign() - '0', FAR);
                pos++;
            }
            return number >= least && number <= most || fail(2, start);
        }

        private boolean readWhistle() {
            readWord();
            if (!isWord("whistle")) {
                return fail(1, start);
            }
            if (!readNumber(200, 600)) {
                return false;
            }
            draft.length = number;
            if (!readNumber(5, 20)) {
                return false;
            }
            draft.bore = number;
            if (!readNumber(5, 49)) {
                return false;
            }
            draft.tolerance = number;
            return true;
        }

        private boolean readStatement() {
            readWord();
            if (isWord("hole")) {
                return readHole();
            }
            if (isWord("limit")) {
                return readLimit();
            }
            if (isWord("cost")) {
                return readCost();
            }
            if (isWord("tune")) {
                return readTune();
            }
            return fail(1, start);
        }

        private boolean readHole() {
            if (draft.holes >= MOST_HOLES) {
                return fail(3, start);
            }
            int least = draft.holes == 0 ? 1 : at(draft.places, draft.holes - 1) + 1;
            if (!readNumber(least, draft.length - 1)) {
                return false;
            }
            put(draft.places, draft.holes, number);
            if (!readNumber(2, 15)) {
                return false;
            }
            put(draft.sizes, draft.holes, number);
            draft.holes++;
            return true;
        }

        private boolean readLimit() {
            if (!readNumber(0, MOST_HALVES)) {
                return false;
            }
            draft.halves = number;
            if (!readNumber(0, MOST_CROSSES)) {
                return false;
            }
            draft.crosses = number;
            return true;
        }

        private boolean readCost() {
            if (!readNumber(1, 9)) {
                return false;
            }
            draft.move = number;
            if (!readNumber(1, 9)) {
                return false;
            }
            draft.half = number;
            if (!readNumber(0, 9)) {
                return false;
            }
            draft.breath = number;
            return true;
        }

        private boolean readTune() {
            if (hasTune) {
                return fail(3, start);
            }
            hasTune = true;
            open = 0;
            boolean needsPart = true;
            boolean good = true;
            // Each turn takes a byte at least.
            for (int turn = 0; turn < MOST_BYTES && good; turn++) {
                skipSpaces();
                int sign = sign();
                if (isDigit(sign)) {
                    good = readNumber(0, TONES - 1) && takeNote(number);
                } else if (isLetter(sign)) {
                    good = readRest();
                } else if (sign == '(') {
                    good = readOpening();
                } else if (needsPart) {
                    return fail(1, pos);
                } else if (sign == ')') {
                    good = readClosing();
                } else {
                    return open == 0 || fail(1, pos);
                }
                needsPart = sign == '(';
            }
            return good && fail(1, pos);
        }

        private boolean readRest() {
            readWord();
            return isWord("rest") ? takeNote(NONE) : fail(1, start);
        }

        private boolean takeNote(int tone) {
            if (draft.notes >= MOST_NOTES) {
                return fail(4, start);
            }
            put(draft.tune, draft.notes, tone);
            draft.notes++;
            return true;
        }

        private boolean readOpening() {
            if (open >= MOST_BRACKETS) {
                return fail(3, pos);
            }
            put(opened, open, draft.notes);
            open++;
            pos++;
            return true;
        }

        private boolean readClosing() {
            if (open == 0) {
                return fail(1, pos);
            }
            open--;
            pos++;
            if (!readNumber(1, 9)) {
                return false;
            }
            int first = at(opened, open);
            int count = draft.notes - first;
            if (first + count * number > MOST_NOTES) {
                return fail(4, start);
            }
            for (int k = 0; k < count * (number - 1); k++) {
                put(draft.tune, draft.notes, at(draft.tune, draft.notes - count));
                draft.notes++;
            }
            return true;
        }
    }
}
