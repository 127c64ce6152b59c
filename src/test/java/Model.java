import java.util.ArrayDeque;
import java.util.ArrayList;
import java.util.Arrays;
import java.util.Deque;
import java.util.HashMap;
import java.util.List;
import java.util.Map;

/** The document once more, as plainly and slowly as it can be put: what HoleWhistle is compared with. */
public final class Model {
    private static final class S {
        int length = 300, bore = 12, tolerance = 30, halves = 1, crosses = 1, move = 1, half = 2, breath = 1;
        List<int[]> holes = new ArrayList<>();
        List<Integer> tune = new ArrayList<>();
        int play = 0, spent = 0, place = 0;

        S copy() {
            S s = new S();
            s.length = length; s.bore = bore; s.tolerance = tolerance;
            s.halves = halves; s.crosses = crosses;
            s.move = move; s.half = half; s.breath = breath;
            for (int[] h : holes) s.holes.add(h.clone());
            s.tune.addAll(tune);
            s.play = play; s.spent = spent; s.place = place;
            return s;
        }
    }

    private static final class Error extends RuntimeException {
        final int kind, position;
        Error(int kind, int position) { this.kind = kind; this.position = position; }
    }

    private S s = new S();
    private final Deque<S> actions = new ArrayDeque<>();
    private final S[] snapshots = new S[2];
    private String input = "";
    private String output = "";
    private int error = 0;
    private int errorStatement = -1;

    // ---- descriptions: tokens first, then one function for each kind of thing ----

    private record Token(String text, int position) {
        boolean isNumber() { return !text.isEmpty() && Character.isDigit(text.charAt(0)); }
        boolean is(String what) { return text.equals(what); }
    }

    private List<Token> tokens;
    private int next;
    private int statement;
    private boolean tuneTold;

    private static List<Token> tokensOf(String text) {
        List<Token> found = new ArrayList<>();
        int k = 0;
        while (k < text.length()) {
            char c = text.charAt(k);
            int from = k++;
            if (c == ' ') continue;
            if (c >= 'a' && c <= 'z') while (k < text.length() && text.charAt(k) >= 'a' && text.charAt(k) <= 'z') k++;
            if (c >= '0' && c <= '9') while (k < text.length() && text.charAt(k) >= '0' && text.charAt(k) <= '9') k++;
            found.add(new Token(text.substring(from, k), from));
        }
        found.add(new Token("", text.length()));
        return found;
    }

    private Token peek() { return tokens.get(next); }

    private int number(int least, int most) {
        Token t = peek();
        if (!t.isNumber()) throw new Error(1, t.position());
        String digits = t.text().replaceFirst("^0+", "");
        if (digits.length() > 6) throw new Error(2, t.position());
        int n = digits.isEmpty() ? 0 : Integer.parseInt(digits);
        if (n < least || n > most) throw new Error(2, t.position());
        next++;
        return n;
    }

    private S parse(String text) {
        tokens = tokensOf(text);
        next = 0;
        statement = 0;
        tuneTold = false;
        S d = new S();
        if (!peek().is("whistle")) throw new Error(1, peek().position());
        next++;
        d.length = number(200, 600);
        d.bore = number(5, 20);
        d.tolerance = number(5, 49);
        while (!peek().is("")) {
            if (!peek().is(";")) throw new Error(1, peek().position());
            next++;
            statement++;
            parseStatement(d);
        }
        return d;
    }

    private void parseStatement(S d) {
        Token t = peek();
        next++;
        switch (t.text()) {
            case "hole" -> {
                if (d.holes.size() == 7) throw new Error(3, t.position());
                int ahead = d.holes.isEmpty() ? 0 : d.holes.get(d.holes.size() - 1)[0];
                int place = number(ahead + 1, d.length - 1);
                d.holes.add(new int[] {place, number(2, 15)});
            }
            case "limit" -> { d.halves = number(0, 2); d.crosses = number(0, 3); }
            case "cost" -> { d.move = number(1, 9); d.half = number(1, 9); d.breath = number(0, 9); }
            case "tune" -> {
                if (tuneTold) throw new Error(3, t.position());
                tuneTold = true;
                d.tune = parts(0, 0);
            }
            default -> throw new Error(1, t.position());
        }
    }

    private List<Integer> parts(int depth, int before) {
        List<Integer> got = new ArrayList<>();
        boolean any = false;
        while (true) {
            Token t = peek();
            if (t.isNumber() || t.is("rest")) {
                int tone = t.is("rest") ? -1 : number(0, 24);
                if (t.is("rest")) next++;
                if (before + got.size() + 1 > 40) throw new Error(4, t.position());
                got.add(tone);
            } else if (t.is("(")) {
                if (depth == 4) throw new Error(3, t.position());
                next++;
                List<Integer> inner = parts(depth + 1, before + got.size());
                if (!peek().is(")")) throw new Error(1, peek().position());
                next++;
                int at = peek().position();
                int times = number(1, 9);
                if (before + got.size() + inner.size() * times > 40) throw new Error(4, at);
                for (int k = 0; k < times; k++) got.addAll(inner);
            } else {
                if (!any) throw new Error(1, t.position());
                return got;
            }
            any = true;
        }
    }

    public int append(long bytes) {
        StringBuilder b = new StringBuilder();
        for (int k = 7; k >= 0; k--) {
            char c = (char) (bytes >> (8 * k) & 255);
            if (c != 0) b.append(c);
        }
        if (input.length() + b.length() > 400) return -2;
        input += b;
        return input.length();
    }

    public int load() {
        String text = input;
        input = "";
        try {
            s = parse(text);
            actions.clear();
            error = 0;
            errorStatement = -1;
            return s.tune.size();
        } catch (Error e) {
            error = e.kind;
            errorStatement = statement;
            return -100 - e.position;
        }
    }

    public int loadError() { return error; }

    public int loadStatement() { return errorStatement; }

    // ---- plays ----

    private static final String[] DIGITS = new String[2187];

    static {
        for (int f = 0; f < 2187; f++) {
            DIGITS[f] = new StringBuilder(Integer.toString(2187 + f, 3)).reverse().substring(0, 7);
        }
    }

    private int fingerings() { return List.of(1, 3, 9, 27, 81, 243, 729, 2187).get(s.holes.size()); }

    private int how(int play, int hole) { return DIGITS[play % fingerings()].charAt(hole) - '0'; }

    private boolean strong(int play) { return play >= fingerings(); }

    private int soundingOf(int play) {
        int l = 10 * s.length + 6 * s.bore;
        for (int k = s.holes.size() - 1; k >= 0; k--) {
            int how = how(play, k);
            if (how == 2) continue;
            int size = s.holes.get(k)[1];
            int strength = how == 0 ? size : (size + 1) / 2;
            int own = 10 * s.holes.get(k)[0] + 5 * s.bore * s.bore / strength;
            if (own < l) l = own + (l - own) / (1 + strength);
        }
        return l;
    }

    private int centsOf(int play) {
        long[] step = new long[49];
        step[0] = (10L * s.length + 6L * s.bore) * 1000;
        for (int k = 1; k < 49; k++) step[k] = step[k - 1] * 94387 / 100000;
        long l = 1000L * soundingOf(play);
        int n = 47;
        while (step[n] < l) n--;
        long pitch = Math.min(4800, 100 * n + 100 * (step[n] - l) / (step[n] - step[n + 1]));
        return (int) pitch + (strong(play) ? 1200 : 0);
    }

    private int halvesOf(int play) {
        int n = 0;
        for (int k = 0; k < s.holes.size(); k++) if (how(play, k) == 1) n++;
        return n;
    }

    private int crossesOf(int play) {
        int n = 0;
        for (int k = 0; k < s.holes.size(); k++) {
            boolean some = false;
            for (int j = 0; j < k; j++) if (how(play, j) != 2) some = true;
            if (how(play, k) == 2 && some) n++;
        }
        return n;
    }

    private int change0(int one, int other) {
        int c = strong(one) != strong(other) ? s.breath : 0;
        for (int k = 0; k < s.holes.size(); k++) {
            int a = how(one, k), b = how(other, k);
            if (a != b) c += a == 1 || b == 1 ? s.half : s.move;
        }
        return c;
    }

    // What only the holes and the size decide is remembered over all objects, else nothing would end.
    private static final Map<String, int[][]> FACTS = new HashMap<>();

    private int[][] facts() {
        StringBuilder key = new StringBuilder(s.length + " " + s.bore);
        for (int[] h : s.holes) key.append(' ').append(h[0]).append(' ').append(h[1]);
        if (FACTS.size() > 300) FACTS.clear();
        int[][] known = FACTS.get(key.toString());
        if (known != null) return known;
        int plays = 2 * fingerings();
        int[][] f = new int[3][plays];
        for (int p = 0; p < plays; p++) {
            f[0][p] = centsOf(p);
            f[1][p] = halvesOf(p);
            f[2][p] = crossesOf(p);
        }
        FACTS.put(key.toString(), f);
        return f;
    }

    private List<Integer> easyOf(int tone, int halves, int crosses) {
        List<Integer> list = new ArrayList<>();
        if (tone < 0 || tone > 24) return list;
        int[][] f = facts();
        for (int p = 0; p < f[0].length; p++) {
            if (Math.abs(f[0][p] - 100 * tone) <= s.tolerance && f[1][p] <= halves && f[2][p] <= crosses) list.add(p);
        }
        return list;
    }

    private List<Integer> easyOf(int tone) { return easyOf(tone, s.halves, s.crosses); }

    // ---- ways ----

    /** The easiest way through some notes that are no rests; behind it its cost. start: a play or -1. */
    private int[] wayThrough(List<List<Integer>> notes, int start) {
        int n = notes.size();
        int[][] from = new int[n][];
        int[] cost = null, rank = null;
        for (int i = 0; i < n; i++) {
            List<Integer> here = notes.get(i);
            int[] c = new int[here.size()];
            from[i] = new int[here.size()];
            for (int q = 0; q < c.length; q++) {
                if (i == 0) {
                    c[q] = start < 0 ? 0 : change0(start, here.get(q));
                    from[i][q] = 0;
                    continue;
                }
                int best = -1, least = 0;
                for (int p = 0; p < cost.length; p++) {
                    int sum = cost[p] + change0(notes.get(i - 1).get(p), here.get(q));
                    if (best < 0 || sum < least || sum == least && rank[p] < rank[best]) { best = p; least = sum; }
                }
                c[q] = least;
                from[i][q] = best;
            }
            Integer[] order = new Integer[c.length];
            for (int q = 0; q < c.length; q++) order[q] = q;
            final int[] f = from[i], r = rank;
            Arrays.sort(order, (a, b) -> r != null && r[f[a]] != r[f[b]] ? r[f[a]] - r[f[b]] : a - b);
            rank = new int[c.length];
            for (int k = 0; k < order.length; k++) rank[order[k]] = k;
            cost = c;
        }
        int end = 0;
        for (int q = 1; q < cost.length; q++) {
            if (cost[q] < cost[end] || cost[q] == cost[end] && rank[q] < rank[end]) end = q;
        }
        int[] way = new int[n + 1];
        way[n] = cost[end];
        for (int i = n - 1; i >= 0; i--) {
            way[i] = notes.get(i).get(end);
            end = from[i][end];
        }
        return way;
    }

    /** The plays of the easiest way, -1 for rests, and behind them the cost; null if it is not playable. */
    private int[] way(int by, int halves, int crosses) {
        int[] way = new int[s.tune.size() + 1];
        Arrays.fill(way, -1);
        int total = 0;
        int i = 0;
        Map<Integer, List<Integer>> lists = new HashMap<>();
        for (int tone : s.tune) {
            if (tone >= 0) {
                lists.computeIfAbsent(tone, t -> easyOf(t + by, halves, crosses));
                if (lists.get(tone).isEmpty()) return null;
            }
        }
        while (i < s.tune.size()) {
            if (s.tune.get(i) < 0) { i++; continue; }
            List<List<Integer>> part = new ArrayList<>();
            int first = i;
            while (i < s.tune.size() && s.tune.get(i) >= 0) part.add(lists.get(s.tune.get(i++)));
            int[] w = wayThrough(part, -1);
            System.arraycopy(w, 0, way, first, part.size());
            total += w[part.size()];
        }
        way[s.tune.size()] = total;
        return way;
    }

    private String wayKey;
    private int[] wayKept;

    private int[] way() {
        StringBuilder key = new StringBuilder();
        key.append(s.length).append(' ').append(s.bore).append(' ').append(s.tolerance).append(' ').append(s.halves)
            .append(' ').append(s.crosses).append(' ').append(s.move).append(' ').append(s.half).append(' ')
            .append(s.breath).append(s.tune);
        for (int[] h : s.holes) key.append(' ').append(h[0]).append(' ').append(h[1]);
        if (!key.toString().equals(wayKey)) {
            wayKey = key.toString();
            wayKept = way(0, s.halves, s.crosses);
        }
        return wayKept;
    }

    private int changeTo(int[] way, int note) {
        return isChange(note) ? change0(way[note - 1], way[note]) : 0;
    }

    private boolean isChange(int note) {
        return note > 0 && s.tune.get(note) >= 0 && s.tune.get(note - 1) >= 0;
    }

    // ---- checks ----

    private static void index(boolean good) { if (!good) throw new IndexOutOfBoundsException(); }

    private static void argument(boolean good) { if (!good) throw new IllegalArgumentException(); }

    private boolean isPlay(int p) { return p >= 0 && p < 2 * fingerings(); }

    private boolean isHole(int h) { return h >= 0 && h < s.holes.size(); }

    private boolean isNote(int n) { return n >= 0 && n < s.tune.size(); }

    private static boolean isTone(int t) { return t >= 0 && t <= 24; }

    private static boolean in(int n, int a, int b) { return n >= a && n <= b; }

    private void keep() {
        actions.addLast(s.copy());
        if (actions.size() > 8) actions.removeFirst();
    }

    // ---- the face ----

    public int size(int what) {
        argument(in(what, 0, 15));
        int rests = 0;
        for (int t : s.tune) if (t < 0) rests++;
        return new int[] {s.length, s.bore, s.tolerance, s.holes.size(), s.halves, s.crosses, s.move, s.half, s.breath,
            s.tune.size(), rests, 2 * fingerings(), s.play, s.spent, s.place, actions.size()}[what];
    }

    public int hole(int hole, int what) {
        index(isHole(hole));
        argument(in(what, 0, 2));
        return what == 2 ? how(s.play, hole) : s.holes.get(hole)[what];
    }

    public int covered(int play, int hole) { index(isPlay(play) && isHole(hole)); return how(play, hole); }

    public int sounding(int play) { index(isPlay(play)); return soundingOf(play); }

    public int cents(int play) { index(isPlay(play)); return centsOf(play); }

    public int tone(int play) {
        index(isPlay(play));
        for (int t = 0; t <= 24; t++) if (Math.abs(centsOf(play) - 100 * t) <= s.tolerance) return t;
        return -1;
    }

    public int off(int play) {
        index(isPlay(play));
        for (int d = -49; d <= 50; d++) if ((centsOf(play) - d) % 100 == 0) return d;
        return -1000;
    }

    public int halves(int play) { index(isPlay(play)); return halvesOf(play); }

    public int crosses(int play) { index(isPlay(play)); return crossesOf(play); }

    public boolean isEasy(int play) {
        index(isPlay(play));
        return halvesOf(play) <= s.halves && crossesOf(play) <= s.crosses;
    }

    public int plays(int tone) { argument(isTone(tone)); return easyOf(tone).size(); }

    public int playOf(int tone, int index) {
        argument(isTone(tone));
        List<Integer> easy = easyOf(tone);
        return in(index, 0, easy.size() - 1) ? easy.get(index) : -1;
    }

    public int truest(int tone) {
        argument(isTone(tone));
        int best = -1;
        for (int p : easyOf(tone)) {
            if (best < 0 || Math.abs(centsOf(p) - 100 * tone) < Math.abs(centsOf(best) - 100 * tone)) best = p;
        }
        return best;
    }

    public int lacking() {
        int sum = 0;
        for (int t = 0; t <= 24; t++) if (easyOf(t).isEmpty()) sum += (int) Math.pow(2, t);
        return sum;
    }

    public int change(int one, int other) { index(isPlay(one) && isPlay(other)); return change0(one, other); }

    public int fingers(int one, int other) {
        index(isPlay(one) && isPlay(other));
        int n = 0;
        for (int k = 0; k < s.holes.size(); k++) if (how(one, k) != how(other, k)) n++;
        return n;
    }

    public int nearest(int tone) {
        argument(isTone(tone));
        int best = -1;
        for (int p : easyOf(tone)) if (best < 0 || change0(s.play, p) < change0(s.play, best)) best = p;
        return best;
    }

    public int note(int note) { index(isNote(note)); return s.tune.get(note); }

    private int lackingFrom(int place) {
        for (int i = place; i < s.tune.size(); i++) {
            if (s.tune.get(i) >= 0 && easyOf(s.tune.get(i)).isEmpty()) return i;
        }
        return -1;
    }

    public boolean isPlayable() { return lackingFrom(0) < 0; }

    public int firstLacking() { return lackingFrom(0); }

    public int cost() { return way() == null ? -1 : way()[s.tune.size()]; }

    public int wayPlay(int note) { index(isNote(note)); return way() == null ? -1 : way()[note]; }

    public int wayChange(int note) { index(isNote(note)); return way() == null ? -1 : changeTo(way(), note); }

    public int hardest() {
        int[] w = way();
        if (w == null || s.tune.isEmpty()) return -1;
        int best = 0;
        for (int i = 1; i < s.tune.size(); i++) if (changeTo(w, i) > changeTo(w, best)) best = i;
        return best;
    }

    public int moved(int hole) {
        index(isHole(hole));
        int[] w = way();
        if (w == null) return -1;
        int n = 0;
        for (int i = 1; i < s.tune.size(); i++) if (isChange(i) && how(w[i - 1], hole) != how(w[i], hole)) n++;
        return n;
    }

    public int idle() {
        int[] w = way();
        if (w == null) return -1;
        int sum = 0;
        for (int k = 0; k < s.holes.size(); k++) {
            List<Integer> hows = new ArrayList<>();
            for (int i = 0; i < s.tune.size(); i++) {
                if (s.tune.get(i) >= 0 && !hows.contains(how(w[i], k))) hows.add(how(w[i], k));
            }
            if (hows.size() <= 1) sum += 1 << k;
        }
        return sum;
    }

    private int costBy0(int by) {
        int[] w = way(by, s.halves, s.crosses);
        return w == null ? -1 : w[s.tune.size()];
    }

    public int costBy(int by) { argument(in(by, -12, 12)); return costBy0(by); }

    public int bestBy() {
        int best = -99, least = -1;
        for (int by : new int[] {0, 1, -1, 2, -2, 3, -3, 4, -4, 5, -5, 6, -6}) {
            int c = costBy0(by);
            if (c >= 0 && (least < 0 || c < least)) { least = c; best = by; }
        }
        return best;
    }

    public int costWith(int halves, int crosses) {
        argument(in(halves, 0, 2) && in(crosses, 0, 3));
        int[] w = way(0, halves, crosses);
        return w == null ? -1 : w[s.tune.size()];
    }

    public int level() {
        int best = -1, least = 100;
        for (int h = 0; h <= 2; h++) {
            for (int c = 0; c <= 3; c++) {
                boolean good = h + c < least;
                for (int i = 0; good && i < s.tune.size(); i++) {
                    if (s.tune.get(i) >= 0 && easyOf(s.tune.get(i), h, c).isEmpty()) good = false;
                }
                if (good) { least = h + c; best = 10 * h + c; }
            }
        }
        return best;
    }

    public int setHole(int hole, int place, int size) {
        index(isHole(hole));
        argument(in(place, 1, s.length - 1) && in(size, 2, 15));
        if (hole > 0 && place <= s.holes.get(hole - 1)[0]) return -3;
        if (hole + 1 < s.holes.size() && place >= s.holes.get(hole + 1)[0]) return -3;
        keep();
        return s.holes.set(hole, new int[] {place, size})[0];
    }

    public int setLimits(int halves, int crosses) {
        argument(in(halves, 0, 2) && in(crosses, 0, 3));
        keep();
        int old = 10 * s.halves + s.crosses;
        s.halves = halves;
        s.crosses = crosses;
        return old;
    }

    public int setTolerance(int tolerance) {
        argument(in(tolerance, 5, 49));
        keep();
        int old = s.tolerance;
        s.tolerance = tolerance;
        return old;
    }

    public int setCosts(int move, int half, int breath) {
        argument(in(move, 1, 9) && in(half, 1, 9) && in(breath, 0, 9));
        keep();
        int old = s.move;
        s.move = move;
        s.half = half;
        s.breath = breath;
        return old;
    }

    public int addNote(int tone) {
        argument(tone == -1 || isTone(tone));
        if (s.tune.size() == 40) return -2;
        keep();
        s.tune.add(tone);
        return s.tune.size() - 1;
    }

    public int setNote(int note, int tone) {
        index(isNote(note));
        argument(tone == -1 || isTone(tone));
        keep();
        return s.tune.set(note, tone);
    }

    public int dropNote(int note) {
        index(isNote(note));
        keep();
        s.tune.remove(note);
        if (s.place > note) s.place--;
        if (!isNote(s.place)) s.place = 0;
        return s.tune.size();
    }

    public int repeat(int from, int to) {
        index(isNote(from) && isNote(to));
        argument(to >= from);
        List<Integer> more = new ArrayList<>(s.tune.subList(from, to + 1));
        if (s.tune.size() + more.size() > 40) return -2;
        keep();
        s.tune.addAll(to + 1, more);
        return s.tune.size();
    }

    public int higher(int by) {
        argument(in(by, -12, 12));
        int count = 0;
        List<Integer> tones = new ArrayList<>();
        for (int t : s.tune) {
            if (t >= 0 && !isTone(t + by)) return -3;
            if (t >= 0) count++;
            tones.add(t < 0 ? t : t + by);
        }
        keep();
        s.tune = tones;
        return count;
    }

    private int turn(int play) {
        s.spent += change0(s.play, play);
        s.play = play;
        return play;
    }

    public int cover(int hole, int how) {
        index(isHole(hole));
        argument(in(how, 0, 2));
        keep();
        int play = strong(s.play) ? fingerings() : 0;
        for (int k = s.holes.size() - 1, power = fingerings() / 3; k >= 0; k--, power /= 3) {
            play += power * (k == hole ? how : how(s.play, k));
        }
        return turn(play);
    }

    public int blow(boolean strong) {
        keep();
        return turn(s.play % fingerings() + (strong ? fingerings() : 0));
    }

    public int step() {
        if (s.tune.isEmpty() || lackingFrom(s.place) >= 0) return -3;
        keep();
        List<List<Integer>> part = new ArrayList<>();
        for (int i = s.place; i < s.tune.size() && s.tune.get(i) >= 0; i++) part.add(easyOf(s.tune.get(i)));
        if (!part.isEmpty()) turn(wayThrough(part, s.play)[0]);
        s.place = (s.place + 1) % s.tune.size();
        return s.play;
    }

    public int rewind(int place) {
        index(place == 0 || isNote(place));
        keep();
        int old = s.place;
        s.place = place;
        return old;
    }

    public double meanCost() {
        int changes = 0;
        for (int i = 0; i < s.tune.size(); i++) if (isChange(i)) changes++;
        return changes == 0 || cost() < 0 ? 0.0 : (double) cost() / (double) changes;
    }

    public float fingering(int tone) {
        argument(isTone(tone));
        int all = easyOf(tone, 7, 7).size();
        return all == 0 ? 0.0f : (float) plays(tone) / (float) all;
    }

    public int writePlay(int play) {
        index(isPlay(play));
        output = "";
        for (int k = 0; k < s.holes.size(); k++) output += "ohx".charAt(how(play, k));
        if (strong(play)) output += "+";
        return output.length();
    }

    public int writeTune() {
        List<String> words = new ArrayList<>();
        for (int t : s.tune) words.add(t < 0 ? "r" : String.valueOf(t));
        output = String.join(" ", words);
        return output.length();
    }

    public int outputByte(int index) { return in(index, 0, output.length() - 1) ? output.charAt(index) : -1; }

    public int undo() {
        if (actions.isEmpty()) return -1;
        s = actions.removeLast();
        return actions.size();
    }

    public int saveSnapshot(int slot) {
        argument(in(slot, 0, 1));
        snapshots[slot] = s.copy();
        return s.tune.size();
    }

    public int restoreSnapshot(int slot) {
        argument(in(slot, 0, 1));
        if (snapshots[slot] == null) return -1;
        s = snapshots[slot].copy();
        actions.clear();
        return s.tune.size();
    }
}
