import java.util.ArrayDeque;
import java.util.ArrayList;
import java.util.Arrays;
import java.util.Deque;
import java.util.HashSet;
import java.util.List;
import java.util.Set;
import java.util.TreeMap;

/** The document written a second time, as plainly as can be, to be asked beside SevenPedals. */
final class Model {
    private static final int[] OFFSET = {0, 2, 4, 5, 7, 9, 11};
    private static final List<Integer> LEFT = List.of(6, 0, 1);
    private static final List<Integer> RIGHT = List.of(2, 3, 4, 5);
    private static final int[][] STANDS = new int[2187][];

    static {
        for (int d = 0; d < 2187; d++) {
            STANDS[d] = new int[7];
            int rest = d;
            for (int p = 0; p < 7; p++) {
                STANDS[d][p] = rest % 3;
                rest /= 3;
            }
        }
    }

    private record Note(int kind, int pitch, boolean rings) { }

    private record Sheet(int bits, int[] numbers) { }

    private static final class Score {
        int beats = 8;
        final List<List<Note>> notes = new ArrayList<>();
        final Integer[][] marks = new Integer[12][7];
        final Integer[] starts = new Integer[7];

        Score() {
            for (int b = 0; b < 12; b++) {
                notes.add(new ArrayList<>());
            }
        }

        Score copy() {
            Score c = new Score();
            c.beats = beats;
            for (int b = 0; b < 12; b++) {
                c.notes.get(b).addAll(notes.get(b));
                c.marks[b] = marks[b].clone();
            }
            System.arraycopy(starts, 0, c.starts, 0, 7);
            return c;
        }
    }

    private record Answer(int moves, long ways, int[] path, int stuck) { }

    private Score score = new Score();
    private final Deque<Score> past = new ArrayDeque<>();
    private final Sheet[] sheets = new Sheet[4];
    private int findings = 0;
    private Answer known = null;

    private int finding(int f) {
        findings++;
        return f;
    }

    private void act() {
        past.push(score.copy());
        if (past.size() > 20) {
            past.removeLast();
        }
        known = null;
    }

    private static boolean in(int v, int from, int to) {
        return v >= from && v <= to;
    }

    private boolean hasNote(int beat, int note) {
        return in(beat, 0, 11) && in(note, 0, score.notes.get(beat).size() - 1);
    }

    int beats(int n) {
        if (!in(n, 1, 12)) {
            return finding(Check.BEYOND);
        }
        act();
        int was = score.beats;
        score.beats = n;
        return was;
    }

    int note(int beat, int kind, int pitch, boolean rings) {
        if (!in(beat, 0, 11) || !in(kind, 0, 3) || !in(pitch, -1, 100)) {
            return finding(Check.BEYOND);
        }
        if (score.notes.get(beat).size() == 6) {
            return finding(Check.FULL);
        }
        act();
        score.notes.get(beat).add(new Note(kind, pitch, rings && kind != 2));
        return score.notes.get(beat).size() - 1;
    }

    int drop(int beat) {
        if (!in(beat, 0, 11)) {
            return finding(Check.BEYOND);
        }
        if (score.notes.get(beat).isEmpty()) {
            return finding(Check.NONE);
        }
        act();
        List<Note> notes = score.notes.get(beat);
        notes.remove(notes.size() - 1);
        return notes.size();
    }

    int as(int beat, int note, int kind) {
        if (!hasNote(beat, note) || !in(kind, 0, 3)) {
            return finding(Check.BEYOND);
        }
        Note n = score.notes.get(beat).get(note);
        boolean is = kind == 0 || kind == n.kind || kind == 1 && n.kind == 3;
        return is ? n.pitch : finding(Check.KIND);
    }

    int of(int beat, int note, int what) {
        if (!hasNote(beat, note) || !in(what, 0, 2)) {
            return finding(Check.BEYOND);
        }
        Note n = score.notes.get(beat).get(note);
        return what == 0 ? n.kind : what == 1 ? n.pitch : n.rings ? 1 : 0;
    }

    private int countNotes() {
        return score.notes.stream().mapToInt(List::size).sum();
    }

    int shift(int by) {
        if (!in(by, -12, 12)) {
            return finding(Check.BEYOND);
        }
        for (List<Note> notes : score.notes) {
            for (Note n : notes) {
                if (!in(n.pitch + by, -1, 100)) {
                    return finding(Check.SIZE);
                }
            }
        }
        act();
        for (List<Note> notes : score.notes) {
            notes.replaceAll(n -> new Note(n.kind, n.pitch + by, n.rings));
        }
        return countNotes();
    }

    int mark(int beat, int pedal, int stand) {
        if (!in(beat, 0, 11) || !in(pedal, 0, 6) || !in(stand, -1, 2)) {
            return finding(Check.BEYOND);
        }
        act();
        Integer was = score.marks[beat][pedal];
        score.marks[beat][pedal] = stand == -1 ? null : (Integer) stand;
        return was == null ? -1 : was;
    }

    int start(int pedal, int stand) {
        if (!in(pedal, 0, 6) || !in(stand, -1, 2)) {
            return finding(Check.BEYOND);
        }
        act();
        Integer was = score.starts[pedal];
        score.starts[pedal] = stand == -1 ? null : (Integer) stand;
        return was == null ? -1 : was;
    }

    private static int sound(int string, int diagram) {
        return 12 * (string / 7) + OFFSET[string % 7] + STANDS[diagram][string % 7] - 1;
    }

    private static int find(Note n, int diagram) {
        int above = n.kind == 1 ? 12 : n.kind == 3 ? 19 : 0;
        for (int s = 0; s < 42; s++) {
            if (sound(s, diagram) + above == n.pitch) {
                return s;
            }
        }
        return -1;
    }

    private static boolean fits(Score sc, int beat, int diagram) {
        Set<Integer> taken = new HashSet<>();
        for (int p = 0; p < 7; p++) {
            if (sc.marks[beat][p] != null && sc.marks[beat][p] != STANDS[diagram][p]) {
                return false;
            }
        }
        for (Note n : sc.notes.get(beat)) {
            int s = find(n, diagram);
            if (s < 0 || !taken.add(s)) {
                return false;
            }
        }
        return true;
    }

    int pitch(int string, int diagram) {
        return in(string, 0, 41) && in(diagram, 0, 2186) ? sound(string, diagram) : finding(Check.BEYOND);
    }

    int string(int beat, int note, int diagram) {
        if (!hasNote(beat, note) || !in(diagram, 0, 2186)) {
            return finding(Check.BEYOND);
        }
        int s = find(score.notes.get(beat).get(note), diagram);
        return s < 0 ? finding(Check.NONE) : s;
    }

    int does(int beat, int diagram) {
        if (!in(beat, 0, 11) || !in(diagram, 0, 2186)) {
            return finding(Check.BEYOND);
        }
        return fits(score, beat, diagram) ? 1 : 0;
    }

    int many(int beat) {
        if (!in(beat, 0, 11)) {
            return finding(Check.BEYOND);
        }
        int count = 0;
        for (int d = 0; d < 2187; d++) {
            count += fits(score, beat, d) ? 1 : 0;
        }
        return count;
    }

    /** Pedals of a foot that differ; null in a stands like anything. */
    private static int unlike(List<Integer> foot, Integer[] told, int[] stands) {
        int count = 0;
        for (int p : foot) {
            count += told[p] != null && told[p] != stands[p] ? 1 : 0;
        }
        return count;
    }

    /** The diagrams to which the feet may go from one, with how many moves. */
    private static void steps(int d, Set<Integer> ringing, List<int[]> into) {
        into.clear();
        List<Integer> lefts = footSteps(d, LEFT, ringing);
        for (int m : lefts) {
            for (int e : footSteps(m, RIGHT, ringing)) {
                into.add(new int[] {e, (m != d ? 1 : 0) + (e != m ? 1 : 0)});
            }
        }
    }

    private static List<Integer> footSteps(int d, List<Integer> foot, Set<Integer> ringing) {
        List<Integer> all = new ArrayList<>();
        all.add(d);
        for (int p : foot) {
            if (!ringing.contains(p)) {
                int weight = (int) Math.pow(3, p);
                for (int stand = 0; stand < 3; stand++) {
                    if (stand != STANDS[d][p]) {
                        all.add(d + (stand - STANDS[d][p]) * weight);
                    }
                }
            }
        }
        return all;
    }

    /** For a diagram: the fewest moves to it, how many ways have so few, and the least of these. */
    private static final class Reached {
        int moves = Integer.MAX_VALUE;
        long ways = 0;
        int[] path = null;

        void offer(int otherMoves, long otherWays, int[] otherPath) {
            if (otherMoves > moves) {
                return;
            }
            boolean fewer = otherMoves < moves;
            if (fewer || Arrays.compare(otherPath, path) < 0) {
                path = otherPath;
            }
            ways = Math.min(1000000, (fewer ? 0 : ways) + otherWays);
            moves = otherMoves;
        }
    }

    private static Answer solve(Score sc) {
        TreeMap<Integer, Reached> now = new TreeMap<>();
        for (int d = 0; d < 2187; d++) {
            int left = unlike(LEFT, sc.starts, STANDS[d]);
            int right = unlike(RIGHT, sc.starts, STANDS[d]);
            if (left <= 1 && right <= 1 && fits(sc, 0, d)) {
                Reached r = new Reached();
                r.offer(left + right, 1, new int[0]);
                r.path = new int[] {d};
                now.put(d, r);
            }
        }
        List<int[]> steps = new ArrayList<>();
        for (int b = 0; b + 1 < sc.beats; b++) {
            if (now.isEmpty()) {
                return new Answer(-1, 0, null, b);
            }
            Reached[] next = new Reached[2187];
            boolean[] fit = new boolean[2187];
            for (int d = 0; d < 2187; d++) {
                fit[d] = fits(sc, b + 1, d);
            }
            for (int d : now.keySet()) {
                Set<Integer> ringing = new HashSet<>();
                for (Note n : sc.notes.get(b)) {
                    if (n.rings) {
                        ringing.add(find(n, d) % 7);
                    }
                }
                steps(d, ringing, steps);
                Reached here = now.get(d);
                for (int[] step : steps) {
                    if (fit[step[0]]) {
                        if (next[step[0]] == null) {
                            next[step[0]] = new Reached();
                        }
                        next[step[0]].offer(here.moves + step[1], here.ways, here.path);
                    }
                }
            }
            now = new TreeMap<>();
            for (int d = 0; d < 2187; d++) {
                if (next[d] != null) {
                    int[] path = Arrays.copyOf(next[d].path, b + 2);
                    path[b + 1] = d;
                    next[d].path = path;
                    now.put(d, next[d]);
                }
            }
        }
        if (now.isEmpty()) {
            return new Answer(-1, 0, null, sc.beats - 1);
        }
        Reached best = new Reached();
        for (Reached r : now.values()) {
            best.offer(r.moves, r.ways, r.path);
        }
        return new Answer(best.moves, best.ways, best.path, -1);
    }

    private Answer answer() {
        if (known == null) {
            known = solve(score);
        }
        return known;
    }

    private boolean noWay() {
        return answer().stuck >= 0;
    }

    int moves() {
        return noWay() ? finding(Check.NONE) : answer().moves;
    }

    int diagram(int beat) {
        if (!in(beat, 0, score.beats - 1)) {
            return finding(Check.BEYOND);
        }
        return noWay() ? finding(Check.NONE) : answer().path[beat];
    }

    int stand(int beat, int pedal) {
        if (!in(beat, 0, score.beats - 1) || !in(pedal, 0, 6)) {
            return finding(Check.BEYOND);
        }
        return noWay() ? finding(Check.NONE) : STANDS[answer().path[beat]][pedal];
    }

    int foot(int beat, boolean right) {
        if (!in(beat, 0, score.beats - 1)) {
            return finding(Check.BEYOND);
        }
        if (noWay()) {
            return finding(Check.NONE);
        }
        for (int p : right ? RIGHT : LEFT) {
            Integer was = beat == 0 ? score.starts[p] : (Integer) STANDS[answer().path[beat - 1]][p];
            if (was != null && was != STANDS[answer().path[beat]][p]) {
                return p;
            }
        }
        return -1;
    }

    int ways() {
        return noWay() ? finding(Check.NONE) : (int) answer().ways;
    }

    int stuck() {
        return answer().stuck;
    }

    int without(int beat, int pedal) {
        if (!in(beat, 0, 11) || !in(pedal, 0, 6)) {
            return finding(Check.BEYOND);
        }
        if (score.marks[beat][pedal] == null) {
            return finding(Check.KIND);
        }
        if (noWay()) {
            return finding(Check.NONE);
        }
        Score other = score.copy();
        other.marks[beat][pedal] = null;
        return answer().moves - solve(other).moves;
    }

    private int splitOf(int beat, int diagram) {
        TreeMap<Integer, Integer> fingers = new TreeMap<>();
        for (Note n : score.notes.get(beat)) {
            fingers.put(find(n, diagram), n.kind == 1 || n.kind == 3 ? 2 : 1);
        }
        List<Integer> strings = new ArrayList<>(fingers.keySet());
        for (int k = 0; k <= strings.size(); k++) {
            boolean can = true;
            for (List<Integer> hand : List.of(strings.subList(0, k), strings.subList(k, strings.size()))) {
                int used = hand.stream().mapToInt(fingers::get).sum();
                can &= used <= 4;
                can &= hand.isEmpty() || hand.get(hand.size() - 1) - hand.get(0) <= 9;
            }
            if (can) {
                return k;
            }
        }
        return -1;
    }

    int split(int beat, int diagram) {
        if (!in(beat, 0, 11) || !in(diagram, 0, 2186)) {
            return finding(Check.BEYOND);
        }
        if (!fits(score, beat, diagram)) {
            return finding(Check.KIND);
        }
        int k = splitOf(beat, diagram);
        return k < 0 ? finding(Check.NONE) : k;
    }

    int hard() {
        if (noWay()) {
            return finding(Check.NONE);
        }
        for (int b = 0; b < score.beats; b++) {
            if (splitOf(b, answer().path[b]) < 0) {
                return b;
            }
        }
        return -1;
    }

    private static List<Integer> pitches(int from, int to, int diagram) {
        List<Integer> all = new ArrayList<>();
        for (int s = from; s != to; s += from < to ? 1 : -1) {
            all.add(sound(s, diagram));
        }
        all.add(sound(to, diagram));
        return all;
    }

    int run(int from, int to, int diagram, int i) {
        if (!in(from, 0, 41) || !in(to, 0, 41) || !in(diagram, 0, 2186)) {
            return finding(Check.BEYOND);
        }
        List<Integer> all = pitches(from, to, diagram);
        return in(i, 0, all.size() - 1) ? all.get(i) : finding(Check.BEYOND);
    }

    int plain(int from, int to, int diagram) {
        if (!in(from, 0, 41) || !in(to, 0, 41) || !in(diagram, 0, 2186)) {
            return finding(Check.BEYOND);
        }
        return new HashSet<>(pitches(from, to, diagram)).size();
    }

    int sheet(int s, int bits, int n) {
        if (!in(s, 0, 3) || !List.of(0, 8, 16, 32).contains(bits)) {
            return finding(Check.BEYOND);
        }
        if (n < 0) {
            return finding(Check.SIZE);
        }
        if (n > 30) {
            return finding(Check.BEYOND);
        }
        sheets[s] = bits == 0 ? null : new Sheet(bits, new int[n]);
        return bits == 0 ? 0 : n;
    }

    int put(int s, int i, int v) {
        if (!in(s, 0, 3)) {
            return finding(Check.BEYOND);
        }
        if (sheets[s] == null) {
            return finding(Check.MISSING);
        }
        if (!in(i, 0, sheets[s].numbers.length - 1)) {
            return finding(Check.BEYOND);
        }
        int unused = 32 - sheets[s].bits;
        sheets[s].numbers[i] = v << unused >> unused;
        return 0;
    }

    int copy(int s, int from, int t, int to, int n) {
        if (!in(s, 0, 3) || !in(t, 0, 3)) {
            return finding(Check.BEYOND);
        }
        if (sheets[s] == null || sheets[t] == null) {
            return finding(Check.MISSING);
        }
        if (sheets[s].bits != sheets[t].bits) {
            return finding(Check.KIND);
        }
        boolean below = from < 0 || to < 0 || n < 0;
        if (below || (long) from + n > sheets[s].numbers.length || (long) to + n > sheets[t].numbers.length) {
            return finding(Check.BEYOND);
        }
        int[] were = sheets[s].numbers.clone();
        for (int i = 0; i < n; i++) {
            sheets[t].numbers[to + i] = were[from + i];
        }
        return n;
    }

    int tune(int s) {
        if (!in(s, 0, 3)) {
            return finding(Check.BEYOND);
        }
        if (sheets[s] == null) {
            return finding(Check.MISSING);
        }
        int[] numbers = sheets[s].numbers;
        if (numbers.length > 12) {
            return finding(Check.SIZE);
        }
        if (Arrays.stream(numbers).anyMatch(v -> v > 100)) {
            return finding(Check.BEYOND);
        }
        act();
        int count = 0;
        for (int b = 0; b < numbers.length; b++) {
            score.notes.get(b).clear();
            if (numbers[b] >= -1) {
                score.notes.get(b).add(new Note(0, numbers[b], false));
                count++;
            }
        }
        return count;
    }

    int undo() {
        if (past.isEmpty()) {
            return finding(Check.NONE);
        }
        score = past.pop();
        known = null;
        return past.size();
    }

    int all(int what) {
        switch (what) {
            case 0: return score.beats;
            case 1: return countNotes();
            case 2: return (int) Arrays.stream(score.marks).flatMap(Arrays::stream).filter(m -> m != null).count();
            case 3: return findings;
            default: return finding(Check.BEYOND);
        }
    }
}
