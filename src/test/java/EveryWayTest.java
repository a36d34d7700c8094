import java.util.ArrayList;
import java.util.List;
import java.util.Random;

/**
 * Small parts of which every way is tried, one after the other, by the words of the Terms alone:
 * no row of prices, nothing that is carried from beat to beat but the diagrams themselves.
 */
public final class EveryWayTest {
    private static final int RUNS = 400;
    private static final int WIDE_RUNS = 12;
    private static final int PEDALS = 7;
    private static final int DIAGRAMS = 2187;
    private static final int NOTHING = -1;
    private static final int[] WHITE = {0, 2, 4, 5, 7, 9, 11};
    private static final int[] ABOVE = {0, 12, 0, 19};
    private static final boolean[] OF_THE_LEFT = {true, true, false, false, false, false, true};
    private static final Check check = new Check();

    private record Note(int kind, int pitch, boolean rings) { }

    private final int run;
    private final Random random;
    private final SevenPedals x = new SevenPedals();
    private final int beats;
    private final List<List<Note>> notes = new ArrayList<>();
    private final int[][] marks;
    private final int[] starts = new int[PEDALS];

    // what the trying of all ways has found
    private int reached;
    private int fewest;
    private int count;
    private int[] first;
    private List<List<int[]>> doing;

    private EveryWayTest(int run, int beats) {
        this.run = run;
        this.beats = beats;
        random = new Random(1000 + run);
        marks = new int[beats][PEDALS];
    }

    public static void main(String[] args) {
        for (int run = 0; run < RUNS; run++) {
            EveryWayTest test = new EveryWayTest(run, 1 + run % 4);
            test.write(3);
            test.compare();
        }
        for (int run = 0; run < WIDE_RUNS; run++) {
            EveryWayTest test = new EveryWayTest(RUNS + run, 2);
            test.write(PEDALS - run % 3);
            test.compare();
        }
        check.end();
    }

    // ---- the part: along a walk of the feet, so that mostly there is a way, or nearly

    private void write(int unmarked) {
        int[] stands = new int[PEDALS];
        for (int p = 0; p < PEDALS; p++) {
            stands[p] = random.nextInt(3);
            starts[p] = random.nextInt(3) > 0 ? stands[p] : NOTHING;
            x.start(p, starts[p]);
        }
        x.beats(beats);
        for (int b = 0; b < beats; b++) {
            for (int moves = random.nextInt(3); moves > 0; moves--) {
                stands[random.nextInt(PEDALS)] = random.nextInt(3);
            }
            writeNotes(b, stands);
            writeMarks(b, stands, unmarked);
        }
    }

    private void writeNotes(int b, int[] stands) {
        notes.add(new ArrayList<>());
        for (int i = random.nextInt(4); i > 0; i--) {
            int string = random.nextInt(42);
            int kind = random.nextInt(4);
            int pitch = pitchOf(string, stands) + ABOVE[kind];
            boolean rings = random.nextBoolean();
            notes.get(b).add(new Note(kind, pitch, rings && kind != 2));
            x.note(b, kind, pitch, rings);
        }
    }

    private void writeMarks(int b, int[] stands, int unmarked) {
        List<Integer> pedals = new ArrayList<>();
        for (int p = 0; p < PEDALS; p++) {
            marks[b][p] = NOTHING;
            pedals.add(p);
        }
        while (pedals.size() > unmarked) {
            int p = pedals.remove(random.nextInt(pedals.size()));
            marks[b][p] = stands[p];
            x.mark(b, p, stands[p]);
        }
    }

    // ---- the Terms

    private static int[] standsOf(int diagram) {
        int[] stands = new int[PEDALS];
        for (int p = 0, rest = diagram; p < PEDALS; p++, rest /= 3) {
            stands[p] = rest % 3;
        }
        return stands;
    }

    private static int numberOf(int[] stands) {
        int number = 0;
        for (int p = 0, power = 1; p < PEDALS; p++, power *= 3) {
            number += power * stands[p];
        }
        return number;
    }

    private static int pitchOf(int string, int[] stands) {
        return 12 * (string / 7) + WHITE[string % 7] + stands[string % 7] - 1;
    }

    private static int stringOf(Note note, int[] stands) {
        for (int s = 0; s < 42; s++) {
            if (pitchOf(s, stands) + ABOVE[note.kind] == note.pitch) {
                return s;
            }
        }
        return NOTHING;
    }

    private boolean doesFor(int b, int[] stands) {
        for (int p = 0; p < PEDALS; p++) {
            if (marks[b][p] != NOTHING && marks[b][p] != stands[p]) {
                return false;
            }
        }
        List<Integer> strings = new ArrayList<>();
        for (Note note : notes.get(b)) {
            int string = stringOf(note, stands);
            if (string == NOTHING || strings.contains(string)) {
                return false;
            }
            strings.add(string);
        }
        return true;
    }

    private boolean[] ringingLetters(int b, int[] stands) {
        boolean[] letters = new boolean[PEDALS];
        for (Note note : notes.get(b)) {
            if (note.rings) {
                letters[stringOf(note, stands) % 7] = true;
            }
        }
        return letters;
    }

    /** How many pedals are moved; NOTHING: the feet can't. A stand of NOTHING was not told. */
    private static int movesBetween(int[] from, int[] to, boolean[] locked) {
        int left = 0;
        int right = 0;
        for (int p = 0; p < PEDALS; p++) {
            if (from[p] == NOTHING || from[p] == to[p]) {
                continue;
            }
            if (locked[p]) {
                return NOTHING;
            }
            left += OF_THE_LEFT[p] ? 1 : 0;
            right += OF_THE_LEFT[p] ? 0 : 1;
        }
        return left > 1 || right > 1 ? NOTHING : left + right;
    }

    // ---- all ways, in the order of their diagrams' numbers

    private void tryAll() {
        reached = 0;
        fewest = Integer.MAX_VALUE;
        count = 0;
        first = null;
        doing = new ArrayList<>();
        for (int b = 0; b < beats; b++) {
            doing.add(new ArrayList<>());
            for (int d = 0; d < DIAGRAMS; d++) {
                int[] stands = standsOf(d);
                if (doesFor(b, stands)) {
                    doing.get(b).add(stands);
                }
            }
        }
        goOn(0, starts, new boolean[PEDALS], 0, new int[beats]);
    }

    private void goOn(int b, int[] from, boolean[] locked, int moves, int[] way) {
        reached = Math.max(reached, b);
        if (b == beats) {
            take(moves, way);
            return;
        }
        for (int[] to : doing.get(b)) {
            int more = movesBetween(from, to, locked);
            if (more != NOTHING) {
                way[b] = numberOf(to);
                goOn(b + 1, to, ringingLetters(b, to), moves + more, way);
            }
        }
    }

    private void take(int moves, int[] way) {
        if (moves < fewest) {
            fewest = moves;
            count = 0;
            first = way.clone();
        }
        count += moves == fewest ? 1 : 0;
    }

    // ---- the answers

    private void compare() {
        tryAll();
        if (first == null) {
            same("stuck", x.stuck(), reached);
            same("moves", x.moves(), Check.NONE);
            same("ways", x.ways(), Check.NONE);
            same("diagram", x.diagram(0), Check.NONE);
            same("hard", x.hard(), Check.NONE);
            return;
        }
        same("stuck", x.stuck(), NOTHING);
        same("moves", x.moves(), fewest);
        same("ways", x.ways(), Math.min(count, 1000000));
        compareWay(first);
        compareWithout(fewest);
    }

    private void compareWay(int[] way) {
        int[] from = starts;
        for (int b = 0; b < beats; b++) {
            int[] to = standsOf(way[b]);
            int left = NOTHING;
            int right = NOTHING;
            for (int p = 0; p < PEDALS; p++) {
                boolean moved = from[p] != NOTHING && from[p] != to[p];
                left = moved && OF_THE_LEFT[p] ? p : left;
                right = moved && !OF_THE_LEFT[p] ? p : right;
                same("stand", x.stand(b, p), to[p]);
            }
            same("diagram", x.diagram(b), way[b]);
            same("foot left", x.foot(b, false), left);
            same("foot right", x.foot(b, true), right);
            from = to;
        }
    }

    private void compareWithout(int moves) {
        for (int b = 0; b < beats; b++) {
            for (int p = 0; p < PEDALS; p++) {
                int mark = marks[b][p];
                if (mark == NOTHING) {
                    same("without", x.without(b, p), Check.KIND);
                    continue;
                }
                marks[b][p] = NOTHING;
                tryAll();
                marks[b][p] = mark;
                same("without", x.without(b, p), moves - fewest);
            }
        }
    }

    private void same(String call, int got, int want) {
        check.due("run " + run + ": " + call, got, want);
    }
}
