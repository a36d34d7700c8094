import java.util.Arrays;

/**
 * A desk that makes a part playable on a harp with seven pedals.
 * The words of DOC.md (beat, stand, diagram, way, finding) are used here as they are there.
 */
public final class SevenPedals {
    private static final int BEYOND = -100001;
    private static final int MISSING = -100002;
    private static final int SIZE = -100003;
    private static final int KIND = -100004;
    private static final int FULL = -100005;
    private static final int NONE = -100006;

    private static final int BEATS = 12;
    private static final int NOTES = 6;
    private static final int KINDS = 4;
    private static final int STRINGS = 42;
    private static final int PEDALS = 7;
    private static final int STANDS = 3;
    private static final int DIAGRAMS = 2187;
    private static final int LOWEST = -1;
    private static final int HIGHEST = 100;
    private static final int FARTHEST_SHIFT = 12;

    // sets of pedals, a bit for each
    private static final int LEFT_FOOT = 1 << 6 | 1 << 0 | 1 << 1;
    private static final int RIGHT_FOOT = 1 << 2 | 1 << 3 | 1 << 4 | 1 << 5;

    /** For each kind the kind that it is under; -1 ends the chain. */
    private static final int[] KIND_ABOVE = {-1, 0, 0, 1};

    private final Harp harp;
    private final Part part;
    private final History history;
    private final Chord chord;
    private final Way way;
    private final Sheets sheets;
    private int findings;

    public SevenPedals() {
        harp = new Harp();
        part = new Part();
        history = new History();
        chord = new Chord();
        way = new Way(harp, part);
        sheets = new Sheets();
        findings = 0;
    }

    // ---- the part

    public int beats(int n) {
        if (n < 1 || n > BEATS) {
            return finding(BEYOND);
        }
        history.keep(part);
        int before = part.played;
        part.played = n;
        way.forgetLength();
        return before;
    }

    public int note(int beat, int kind, int pitch, boolean rings) {
        if (!isBeat(beat) || !isKind(kind) || pitch < LOWEST || pitch > HIGHEST) {
            return finding(BEYOND);
        }
        if (part.sizes[beat] >= NOTES) {
            return finding(FULL);
        }
        history.keep(part);
        int number = part.add(beat, kind, pitch, rings);
        way.forgetBeats(beat, beat);
        return number;
    }

    public int drop(int beat) {
        if (!isBeat(beat)) {
            return finding(BEYOND);
        }
        if (part.sizes[beat] == 0) {
            return finding(NONE);
        }
        history.keep(part);
        part.sizes[beat]--;
        way.forgetBeats(beat, beat);
        return part.sizes[beat];
    }

    public int as(int beat, int note, int kind) {
        if (!isNote(beat, note) || !isKind(kind)) {
            return finding(BEYOND);
        }
        int at = Part.place(beat, note);
        if (!isUnder(part.kinds[at], kind)) {
            return finding(KIND);
        }
        return part.pitches[at];
    }

    public int of(int beat, int note, int what) {
        if (!isNote(beat, note)) {
            return finding(BEYOND);
        }
        int at = Part.place(beat, note);
        switch (what) {
            case 0:
                return part.kinds[at];
            case 1:
                return part.pitches[at];
            case 2:
                return part.rings[at];
            default:
                return finding(BEYOND);
        }
    }

    public int shift(int by) {
        if (by < -FARTHEST_SHIFT || by > FARTHEST_SHIFT) {
            return finding(BEYOND);
        }
        if (!part.canRise(by)) {
            return finding(SIZE);
        }
        history.keep(part);
        part.rise(by);
        way.forgetBeats(0, BEATS - 1);
        return part.countNotes();
    }

    public int mark(int beat, int pedal, int stand) {
        if (!isBeat(beat) || !isPedal(pedal) || !isStandOrNone(stand)) {
            return finding(BEYOND);
        }
        history.keep(part);
        int at = beat * PEDALS + pedal;
        int before = part.marks[at];
        part.marks[at] = stand;
        way.forgetBeats(beat, beat);
        return before;
    }

    public int start(int pedal, int stand) {
        if (!isPedal(pedal) || !isStandOrNone(stand)) {
            return finding(BEYOND);
        }
        history.keep(part);
        int before = part.starts[pedal];
        part.starts[pedal] = stand;
        way.forgetStart();
        return before;
    }

    // ---- diagrams

    public int pitch(int string, int diagram) {
        if (!isString(string) || !isDiagram(diagram)) {
            return finding(BEYOND);
        }
        return harp.pitchOf(string, diagram);
    }

    public int string(int beat, int note, int diagram) {
        if (!isNote(beat, note) || !isDiagram(diagram)) {
            return finding(BEYOND);
        }
        chord.read(part, beat);
        int found = chord.stringOf(note, harp.stands[diagram]);
        return found < 0 ? finding(NONE) : found;
    }

    public int does(int beat, int diagram) {
        if (!isBeat(beat) || !isDiagram(diagram)) {
            return finding(BEYOND);
        }
        chord.read(part, beat);
        return chord.locksBy(harp.stands[diagram]) < 0 ? 0 : 1;
    }

    public int many(int beat) {
        if (!isBeat(beat)) {
            return finding(BEYOND);
        }
        chord.read(part, beat);
        int count = 0;
        for (int d = 0; d < DIAGRAMS; d++) {
            if (chord.locksBy(harp.stands[d]) >= 0) {
                count++;
            }
        }
        return count;
    }

    // ---- the way

    public int moves() {
        return way.exists() ? way.cost() : finding(NONE);
    }

    public int diagram(int beat) {
        if (!isPlayed(beat)) {
            return finding(BEYOND);
        }
        return way.exists() ? way.path[beat] : finding(NONE);
    }

    public int stand(int beat, int pedal) {
        if (!isPlayed(beat) || !isPedal(pedal)) {
            return finding(BEYOND);
        }
        if (!way.exists()) {
            return finding(NONE);
        }
        return Harp.standIn(harp.stands[way.path[beat]], pedal);
    }

    public int foot(int beat, boolean right) {
        if (!isPlayed(beat)) {
            return finding(BEYOND);
        }
        if (!way.exists()) {
            return finding(NONE);
        }
        return way.movedTo(beat, right ? RIGHT_FOOT : LEFT_FOOT);
    }

    public int ways() {
        return way.exists() ? way.count() : finding(NONE);
    }

    public int stuck() {
        return way.exists() ? -1 : way.stuckBeat();
    }

    public int without(int beat, int pedal) {
        if (!isBeat(beat) || !isPedal(pedal)) {
            return finding(BEYOND);
        }
        if (part.marks[beat * PEDALS + pedal] < 0) {
            return finding(KIND);
        }
        return way.exists() ? way.sparedWithout(beat, pedal) : finding(NONE);
    }

    // ---- hands, runs

    public int split(int beat, int diagram) {
        if (!isBeat(beat) || !isDiagram(diagram)) {
            return finding(BEYOND);
        }
        chord.read(part, beat);
        int stands = harp.stands[diagram];
        if (chord.locksBy(stands) < 0) {
            return finding(KIND);
        }
        int forLeft = chord.leastForLeft(stands);
        return forLeft < 0 ? finding(NONE) : forLeft;
    }

    public int hard() {
        if (!way.exists()) {
            return finding(NONE);
        }
        for (int beat = 0; beat < part.played; beat++) {
            chord.read(part, beat);
            if (chord.leastForLeft(harp.stands[way.path[beat]]) < 0) {
                return beat;
            }
        }
        return -1;
    }

    public int run(int from, int to, int diagram, int i) {
        if (!isString(from) || !isString(to) || !isDiagram(diagram)) {
            return finding(BEYOND);
        }
        if (i < 0 || i > Math.abs(to - from)) {
            return finding(BEYOND);
        }
        return harp.pitchOf(from <= to ? from + i : from - i, diagram);
    }

    public int plain(int from, int to, int diagram) {
        if (!isString(from) || !isString(to) || !isDiagram(diagram)) {
            return finding(BEYOND);
        }
        return harp.differentPitches(Math.min(from, to), Math.max(from, to), diagram);
    }

    // ---- sheets, the whole

    public int sheet(int s, int bits, int n) {
        if (!Sheets.isSheet(s) || !Sheets.isBits(bits)) {
            return finding(BEYOND);
        }
        if (n < 0) {
            return finding(SIZE);
        }
        if (n > Sheets.LONGEST) {
            return finding(BEYOND);
        }
        return sheets.renew(s, bits, n);
    }

    public int put(int s, int i, int v) {
        if (!Sheets.isSheet(s)) {
            return finding(BEYOND);
        }
        if (sheets.isMissing(s)) {
            return finding(MISSING);
        }
        if (i < 0 || i >= sheets.sizes[s]) {
            return finding(BEYOND);
        }
        sheets.write(s, i, v);
        return 0;
    }

    public int copy(int s, int from, int t, int to, int n) {
        if (!Sheets.isSheet(s) || !Sheets.isSheet(t)) {
            return finding(BEYOND);
        }
        if (sheets.isMissing(s) || sheets.isMissing(t)) {
            return finding(MISSING);
        }
        if (sheets.bits[s] != sheets.bits[t]) {
            return finding(KIND);
        }
        if (!sheets.has(s, from, n) || !sheets.has(t, to, n)) {
            return finding(BEYOND);
        }
        System.arraycopy(sheets.rows[s], from, sheets.rows[t], to, n);
        return n;
    }

    public int tune(int s) {
        if (!Sheets.isSheet(s)) {
            return finding(BEYOND);
        }
        if (sheets.isMissing(s)) {
            return finding(MISSING);
        }
        int size = sheets.sizes[s];
        if (size > BEATS) {
            return finding(SIZE);
        }
        if (sheets.hasAbove(s, HIGHEST)) {
            return finding(BEYOND);
        }
        history.keep(part);
        int notes = part.takeTune(sheets.rows[s], size);
        way.forgetBeats(0, size - 1);
        return notes;
    }

    public int undo() {
        if (history.kept == 0) {
            return finding(NONE);
        }
        history.giveBack(part);
        way.forgetAll();
        return history.kept;
    }

    public int all(int what) {
        switch (what) {
            case 0:
                return part.played;
            case 1:
                return part.countNotes();
            case 2:
                return part.countMarks();
            case 3:
                return findings;
            default:
                return finding(BEYOND);
        }
    }

    // ---- what every act asks

    private int finding(int which) {
        findings++;
        return which;
    }

    private static boolean isBeat(int beat) {
        return beat >= 0 && beat < BEATS;
    }

    private boolean isPlayed(int beat) {
        return beat >= 0 && beat < part.played;
    }

    private boolean isNote(int beat, int note) {
        return isBeat(beat) && note >= 0 && note < part.sizes[beat];
    }

    private static boolean isKind(int kind) {
        return kind >= 0 && kind < KINDS;
    }

    private static boolean isUnder(int kind, int above) {
        int at = kind;
        for (int i = 0; i < KINDS && isKind(at); i++) {
            if (at == above) {
                return true;
            }
            at = KIND_ABOVE[at];
        }
        return false;
    }

    private static boolean isPedal(int pedal) {
        return pedal >= 0 && pedal < PEDALS;
    }

    private static boolean isStandOrNone(int stand) {
        return stand >= -1 && stand < STANDS;
    }

    private static boolean isString(int string) {
        return string >= 0 && string < STRINGS;
    }

    private static boolean isDiagram(int diagram) {
        return diagram >= 0 && diagram < DIAGRAMS;
    }

    /** The strings, and how the pedals stand in every diagram. */
    private static final class Harp {
        private static final int OCTAVE = 12;
        private static final int[] LETTER_PITCHES = {0, 2, 4, 5, 7, 9, 11};

        /** For each diagram its stands, two bits a pedal: many pedals are compared at once. */
        final int[] stands;

        Harp() {
            stands = new int[DIAGRAMS];
            for (int d = 0; d < DIAGRAMS; d++) {
                stands[d] = stands[d / STANDS] << 2 | d % STANDS;
            }
        }

        static int standIn(int stands, int pedal) {
            return stands >> 2 * pedal & 3;
        }

        /** All bits of a pedal's stand. */
        static int bitsOf(int pedal) {
            return 3 << 2 * pedal;
        }

        /** The pitch of a string whose pedal has stand 1. */
        static int natural(int string) {
            return OCTAVE * (string / PEDALS) + LETTER_PITCHES[string % PEDALS];
        }

        int pitchOf(int string, int diagram) {
            return natural(string) + standIn(stands[diagram], string % PEDALS) - 1;
        }

        /** From string low to string high; low is not above high. */
        int differentPitches(int low, int high, int diagram) {
            int count = 0;
            for (int s = low; s <= high; s++) {
                boolean heard = false;
                for (int t = low; t < s; t++) {
                    heard = heard || pitchOf(t, diagram) == pitchOf(s, diagram);
                }
                if (!heard) {
                    count++;
                }
            }
            return count;
        }
    }

    /** What the writer wrote: all that undo brings back. */
    private static final class Part {
        private static final int PLAYED_AT_FIRST = 8;
        private static final int MUTED = 2;

        int played;
        final int[] sizes;
        final int[] kinds;
        final int[] pitches;
        final int[] rings;
        /** A stand for each beat and pedal, -1 where nothing is marked. */
        final int[] marks;
        /** A stand for each pedal, -1 where nothing is told. */
        final int[] starts;

        Part() {
            played = PLAYED_AT_FIRST;
            sizes = new int[BEATS];
            kinds = new int[BEATS * NOTES];
            pitches = new int[BEATS * NOTES];
            rings = new int[BEATS * NOTES];
            marks = new int[BEATS * PEDALS];
            starts = new int[PEDALS];
            Arrays.fill(marks, -1);
            Arrays.fill(starts, -1);
        }

        static int place(int beat, int note) {
            return beat * NOTES + note;
        }

        /** The beat has room for one more. */
        int add(int beat, int kind, int pitch, boolean ringing) {
            int number = sizes[beat];
            int at = place(beat, number);
            kinds[at] = kind;
            pitches[at] = pitch;
            rings[at] = ringing && kind != MUTED ? 1 : 0;
            sizes[beat] = number + 1;
            return number;
        }

        boolean canRise(int by) {
            for (int beat = 0; beat < BEATS; beat++) {
                for (int i = 0; i < sizes[beat]; i++) {
                    int pitch = pitches[place(beat, i)] + by;
                    if (pitch < LOWEST || pitch > HIGHEST) {
                        return false;
                    }
                }
            }
            return true;
        }

        void rise(int by) {
            for (int beat = 0; beat < BEATS; beat++) {
                for (int i = 0; i < sizes[beat]; i++) {
                    pitches[place(beat, i)] += by;
                }
            }
        }

        /** As many numbers as there are beats, at most. */
        int takeTune(int[] numbers, int size) {
            int notes = 0;
            for (int beat = 0; beat < size; beat++) {
                sizes[beat] = 0;
                if (numbers[beat] >= LOWEST) {
                    add(beat, 0, numbers[beat], false);
                    notes++;
                }
            }
            return notes;
        }

        int countNotes() {
            int count = 0;
            for (int beat = 0; beat < BEATS; beat++) {
                count += sizes[beat];
            }
            return count;
        }

        int countMarks() {
            int count = 0;
            for (int at = 0; at < BEATS * PEDALS; at++) {
                if (marks[at] >= 0) {
                    count++;
                }
            }
            return count;
        }

        void become(Part other) {
            played = other.played;
            System.arraycopy(other.sizes, 0, sizes, 0, BEATS);
            System.arraycopy(other.kinds, 0, kinds, 0, BEATS * NOTES);
            System.arraycopy(other.pitches, 0, pitches, 0, BEATS * NOTES);
            System.arraycopy(other.rings, 0, rings, 0, BEATS * NOTES);
            System.arraycopy(other.marks, 0, marks, 0, BEATS * PEDALS);
            System.arraycopy(other.starts, 0, starts, 0, PEDALS);
        }
    }

    /** The part as it was ahead of each of the latest acts, in a ring. */
    private static final class History {
        private static final int DEPTH = 20;

        private final Part[] ring;
        private int next;
        int kept;

        History() {
            ring = new Part[DEPTH];
            for (int i = 0; i < DEPTH; i++) {
                ring[i] = new Part();
            }
            next = 0;
            kept = 0;
        }

        void keep(Part part) {
            ring[next].become(part);
            next = (next + 1) % DEPTH;
            kept = Math.min(kept + 1, DEPTH);
        }

        /** Something is kept. */
        void giveBack(Part part) {
            next = (next + DEPTH - 1) % DEPTH;
            part.become(ring[next]);
            kept--;
        }
    }

    /** The notes of one beat, each with the strings that it may be on, and the beat's marks. */
    private static final class Chord {
        private static final int HAND_FINGERS = 4;
        private static final int HAND_SPAN = 9;
        /** For each kind how far above its string it sounds, and how many fingers it takes. */
        private static final int[] RISES = {0, 12, 0, 19};
        private static final int[] FINGERS = {1, 2, 1, 2};

        private int size;
        private final int[] fingers;
        private final int[] rings;
        // no three strings lie so near one another that all could sound as one pitch; -1: no string
        private final int[] lowString;
        private final int[] lowStand;
        private final int[] highString;
        private final int[] highStand;
        private int markedBits;
        private int markedStands;
        private final int[] handStrings;
        private final int[] handFingers;

        Chord() {
            size = 0;
            fingers = new int[NOTES];
            rings = new int[NOTES];
            lowString = new int[NOTES];
            lowStand = new int[NOTES];
            highString = new int[NOTES];
            highStand = new int[NOTES];
            markedBits = 0;
            markedStands = 0;
            handStrings = new int[NOTES];
            handFingers = new int[NOTES];
        }

        void read(Part part, int beat) {
            size = part.sizes[beat];
            for (int i = 0; i < size; i++) {
                int at = Part.place(beat, i);
                int kind = part.kinds[at];
                fingers[i] = FINGERS[kind];
                rings[i] = part.rings[at];
                findStrings(i, part.pitches[at] - RISES[kind]);
            }
            markedBits = 0;
            markedStands = 0;
            for (int p = 0; p < PEDALS; p++) {
                int stand = part.marks[beat * PEDALS + p];
                if (stand >= 0) {
                    markedBits |= Harp.bitsOf(p);
                    markedStands |= stand << 2 * p;
                }
            }
        }

        private void findStrings(int i, int pitch) {
            lowString[i] = -1;
            highString[i] = -1;
            for (int s = 0; s < STRINGS; s++) {
                int stand = pitch - Harp.natural(s) + 1;
                if (stand < 0 || stand >= STANDS) {
                    continue;
                }
                if (lowString[i] < 0) {
                    lowString[i] = s;
                    lowStand[i] = stand;
                } else {
                    highString[i] = s;
                    highStand[i] = stand;
                }
            }
        }

        void forgetMark(int pedal) {
            markedBits &= ~Harp.bitsOf(pedal);
            markedStands &= ~Harp.bitsOf(pedal);
        }

        /** Whether none of the notes rings on. */
        boolean isSilent() {
            for (int i = 0; i < size; i++) {
                if (rings[i] != 0) {
                    return false;
                }
            }
            return true;
        }

        /** The string of a note; -1: it is not playable. */
        int stringOf(int i, int stands) {
            int low = lowString[i];
            if (low >= 0 && Harp.standIn(stands, low % PEDALS) == lowStand[i]) {
                return low;
            }
            int high = highString[i];
            if (high >= 0 && Harp.standIn(stands, high % PEDALS) == highStand[i]) {
                return high;
            }
            return -1;
        }

        /** The pedals whose strings ring on, a bit for each; -1: the diagram does not do. */
        int locksBy(int stands) {
            if ((stands & markedBits) != markedStands) {
                return -1;
            }
            long taken = 0L;
            int locks = 0;
            for (int i = 0; i < size; i++) {
                int string = stringOf(i, stands);
                if (string < 0 || (taken >> string & 1L) != 0L) {
                    return -1;
                }
                taken |= 1L << string;
                locks |= rings[i] << string % PEDALS;
            }
            return locks;
        }

        /** The fewest strings for the left hand by which both hands can; -1: there are none such. */
        int leastForLeft(int stands) {
            sortStrings(stands);
            for (int left = 0; left <= size; left++) {
                if (handCan(0, left) && handCan(left, size)) {
                    return left;
                }
            }
            return -1;
        }

        private void sortStrings(int stands) {
            for (int i = 0; i < size; i++) {
                int string = stringOf(i, stands);
                int at = i;
                while (at > 0 && handStrings[at - 1] > string) {
                    handStrings[at] = handStrings[at - 1];
                    handFingers[at] = handFingers[at - 1];
                    at--;
                }
                handStrings[at] = string;
                handFingers[at] = fingers[i];
            }
        }

        private boolean handCan(int from, int end) {
            if (from >= end) {
                return true;
            }
            int used = 0;
            for (int i = from; i < end; i++) {
                used += handFingers[i];
            }
            return used <= HAND_FINGERS && handStrings[end - 1] - handStrings[from] <= HAND_SPAN;
        }
    }

    /**
     * The way of the fewest moves.
     * A price is a number of moves and, in its low bits, how many ways have so few:
     * so the lesser of two prices with unlike moves is the better one.
     */
    private static final class Way {
        private static final int MOVE_BITS = 20;
        private static final int MOVE = 1 << MOVE_BITS;
        private static final int COUNT_MASK = MOVE - 1;
        private static final int MOST_WAYS = 1000000;
        /** More moves than any way has, and no way. */
        private static final int NEVER = 63 * MOVE;
        private static final int[] WEIGHTS = {1, 3, 9, 27, 81, 243, 729};
        /** From each stand how far it is to the two others. */
        private static final int[] TO_ONE_OTHER = {1, 1, -1};
        private static final int[] TO_THE_OTHER = {2, -1, -2};

        private final Harp harp;
        private final Part part;
        private final Chord chord;
        /** For each beat and diagram the price of the beats behind it, if the diagram does. */
        private final int[][] onward;
        /** For each beat whether all diagrams have as many moves in its row of onward. */
        private final boolean[] even;
        /** For each beat and diagram the price (without ways) of coming to it. */
        private final int[][] arrival;
        // rows for the reckoning of one beat alone; in two of them one foot is done with
        private final int[] spare;
        private final int[] leftDone;
        private final int[] rightDone;
        private final int[] byLeft;
        private final int[] byRight;
        final int[] path;
        /** Rows of onward from this beat on hold. */
        private int onwardFrom;
        /** Rows of arrival up to this beat hold. */
        private int arrivalTo;
        private boolean solved;
        private int best;
        private boolean stuckKnown;
        private int stuckAt;

        Way(Harp harp, Part part) {
            this.harp = harp;
            this.part = part;
            chord = new Chord();
            onward = new int[BEATS][DIAGRAMS];
            even = new boolean[BEATS];
            arrival = new int[BEATS][DIAGRAMS];
            spare = new int[DIAGRAMS];
            leftDone = new int[DIAGRAMS];
            rightDone = new int[DIAGRAMS];
            byLeft = new int[PEDALS * STANDS];
            byRight = new int[PEDALS * STANDS];
            path = new int[BEATS];
            onwardFrom = BEATS;
            arrivalTo = -1;
            solved = false;
            best = NEVER;
            stuckKnown = false;
            stuckAt = -1;
        }

        // ---- what is still known after a change

        void forgetAll() {
            forgetLength();
            forgetStart();
        }

        void forgetLength() {
            onwardFrom = BEATS;
            forgetAnswers();
        }

        void forgetStart() {
            arrivalTo = -1;
            forgetAnswers();
        }

        void forgetBeats(int first, int last) {
            arrivalTo = Math.min(arrivalTo, first);
            // beats that are not played have no row of onward yet
            if (first < part.played) {
                onwardFrom = Math.max(onwardFrom, last + 1);
            }
            forgetAnswers();
        }

        private void forgetAnswers() {
            solved = false;
            stuckKnown = false;
        }

        // ---- the answers

        boolean exists() {
            if (!solved) {
                for (int b = Math.min(onwardFrom, part.played) - 1; b >= 0; b--) {
                    chord.read(part, b);
                    fillOnward(b, onward[b]);
                    even[b] = isEven(onward[b]);
                }
                onwardFrom = 0;
                makeArrival(0);
                best = bestOf(arrival[0], onward[0]);
                if (best < NEVER) {
                    trace();
                }
                solved = true;
            }
            return best < NEVER;
        }

        /** The way exists. */
        int cost() {
            return best >> MOVE_BITS;
        }

        /** The way exists. */
        int count() {
            return best & COUNT_MASK;
        }

        /** The pedal of a foot that is moved to come to a beat, -1: none. The way exists. */
        int movedTo(int beat, int foot) {
            int stands = harp.stands[path[beat]];
            int moved = beat > 0 ? stands ^ harp.stands[path[beat - 1]] : unlikeStart(stands);
            for (int p = 0; p < PEDALS; p++) {
                if ((foot >> p & 1) != 0 && Harp.standIn(moved, p) != 0) {
                    return p;
                }
            }
            return -1;
        }

        /** The first beat that can't be come to with a diagram that does. No way exists. */
        int stuckBeat() {
            if (!stuckKnown) {
                stuckAt = 0;
                makeArrival(0);
                while (stuckAt < part.played - 1 && canStandAt(stuckAt)) {
                    stuckAt++;
                    makeArrival(stuckAt);
                }
                stuckKnown = true;
            }
            return stuckAt;
        }

        private boolean canStandAt(int beat) {
            chord.read(part, beat);
            for (int d = 0; d < DIAGRAMS; d++) {
                if (arrival[beat][d] < NEVER && chord.locksBy(harp.stands[d]) >= 0) {
                    return true;
                }
            }
            return false;
        }

        /** How many moves fewer without a mark. The way exists. */
        int sparedWithout(int beat, int pedal) {
            if (beat >= part.played) {
                return 0;
            }
            makeArrival(beat);
            chord.read(part, beat);
            chord.forgetMark(pedal);
            fillOnward(beat, spare);
            return cost() - (bestOf(arrival[beat], spare) >> MOVE_BITS);
        }

        // ---- the way, from its end to its beginning

        /** The best price of coming to a beat and going on from it, over all diagrams. */
        private static int bestOf(int[] coming, int[] going) {
            int price = NEVER;
            for (int d = 0; d < DIAGRAMS; d++) {
                price = better(price, coming[d] + going[d]);
            }
            return price;
        }

        /** Both prices in one: the fewer moves, and all ways that have so few. */
        private static int better(int a, int b) {
            boolean asManyMoves = (a ^ b) < MOVE;
            if (!asManyMoves) {
                return a < b ? a : b;
            }
            int ways = (a & COUNT_MASK) + (b & COUNT_MASK);
            return (a & ~COUNT_MASK) + (ways < MOST_WAYS ? ways : MOST_WAYS);
        }

        private static boolean isEven(int[] row) {
            for (int d = 1; d < DIAGRAMS; d++) {
                if (row[d] >> MOVE_BITS != row[0] >> MOVE_BITS) {
                    return false;
                }
            }
            return true;
        }

        /** A row of onward for a beat; the chord is the beat's. */
        private void fillOnward(int beat, int[] row) {
            if (beat >= part.played - 1) {
                Arrays.fill(row, 1);
            } else if (even[beat + 1]) {
                // no move is worth its price where all cost alike
                System.arraycopy(onward[beat + 1], 0, row, 0, DIAGRAMS);
            } else if (chord.isSilent()) {
                spread(onward[beat + 1], RIGHT_FOOT, rightDone);
                spread(rightDone, LEFT_FOOT, row);
            } else {
                fillLockedOnward(onward[beat + 1], row);
            }
            dropUnfit(row);
        }

        /** Diagrams that do not do for the chord have no way. */
        private void dropUnfit(int[] row) {
            for (int d = 0; d < DIAGRAMS; d++) {
                if (row[d] < NEVER && chord.locksBy(harp.stands[d]) < 0) {
                    row[d] = NEVER;
                }
            }
        }

        /** For each diagram the best price in from, if the foot moves one pedal or none. */
        private static void spread(int[] from, int foot, int[] into) {
            System.arraycopy(from, 0, into, 0, DIAGRAMS);
            for (int p = 0; p < PEDALS; p++) {
                if ((foot >> p & 1) != 0) {
                    spreadPedal(from, WEIGHTS[p], into);
                }
            }
        }

        /**
         * The three diagrams that differ in one pedal share the best price among them, and a move.
         * The one that has it is not touched: with a move it is dearer than without.
         */
        private static void spreadPedal(int[] from, int weight, int[] into) {
            for (int block = 0; block < DIAGRAMS; block += STANDS * weight) {
                for (int a = block; a < block + weight; a++) {
                    int b = a + weight;
                    int c = b + weight;
                    int moved = better(better(from[a], from[b]), from[c]) + MOVE;
                    if (moved < NEVER) {
                        into[a] = better(into[a], moved);
                        into[b] = better(into[b], moved);
                        into[c] = better(into[c], moved);
                    }
                }
            }
        }

        /** Each diagram has locks of its own; by a foot that is free all were spread at once. */
        private void fillLockedOnward(int[] next, int[] row) {
            spread(next, LEFT_FOOT, leftDone);
            spread(next, RIGHT_FOOT, rightDone);
            for (int d = 0; d < DIAGRAMS; d++) {
                int locks = chord.locksBy(harp.stands[d]);
                if (locks < 0) {
                    row[d] = NEVER;
                } else if ((locks & RIGHT_FOOT) == 0) {
                    row[d] = bestByFoot(rightDone, d, LEFT_FOOT & ~locks);
                } else if ((locks & LEFT_FOOT) == 0) {
                    row[d] = bestByFoot(leftDone, d, RIGHT_FOOT & ~locks);
                } else {
                    row[d] = bestByBoth(next, d, locks);
                }
            }
        }

        private int bestByBoth(int[] next, int d, int locks) {
            int n = reach(d, LEFT_FOOT & ~locks, byLeft);
            int price = bestByFoot(next, d, RIGHT_FOOT & ~locks);
            for (int i = 1; i < n; i++) {
                price = better(price, bestByFoot(next, byLeft[i], RIGHT_FOOT & ~locks) + MOVE);
            }
            return price;
        }

        private int bestByFoot(int[] from, int d, int pedals) {
            int n = reach(d, pedals, byRight);
            int price = from[d];
            for (int i = 1; i < n; i++) {
                price = better(price, from[byRight[i]] + MOVE);
            }
            return price;
        }

        /** Lists d, and behind it each diagram that d becomes when one of the pedals moves. */
        private int reach(int d, int pedals, int[] into) {
            int stands = harp.stands[d];
            into[0] = d;
            int n = 1;
            for (int p = 0; p < PEDALS; p++) {
                if ((pedals >> p & 1) != 0) {
                    int stand = stands >> 2 * p & 3;
                    into[n] = d + TO_ONE_OTHER[stand] * WEIGHTS[p];
                    into[n + 1] = d + TO_THE_OTHER[stand] * WEIGHTS[p];
                    n += 2;
                }
            }
            return n;
        }

        private void trace() {
            int d = 0;
            while (d < DIAGRAMS - 1 && arrival[0][d] + onward[0][d] >> MOVE_BITS != cost()) {
                d++;
            }
            path[0] = d;
            for (int beat = 1; beat < part.played; beat++) {
                path[beat] = leastNext(beat - 1, path[beat - 1]);
            }
        }

        /** The least diagram by which the way from d at a beat goes on at no more than its price. */
        private int leastNext(int beat, int d) {
            chord.read(part, beat);
            int locks = Math.max(chord.locksBy(harp.stands[d]), 0);
            int due = onward[beat][d] >> MOVE_BITS;
            int least = DIAGRAMS;
            int n = reach(d, LEFT_FOOT & ~locks, byLeft);
            for (int i = 0; i < n; i++) {
                int k = reach(byLeft[i], RIGHT_FOOT & ~locks, byRight);
                for (int j = 0; j < k; j++) {
                    int e = byRight[j];
                    int moved = (i > 0 ? 1 : 0) + (j > 0 ? 1 : 0);
                    if (e < least && moved + (onward[beat + 1][e] >> MOVE_BITS) == due) {
                        least = e;
                    }
                }
            }
            return least < DIAGRAMS ? least : d;
        }

        // ---- how far one comes from the beginning

        private void makeArrival(int beat) {
            for (int b = arrivalTo + 1; b <= beat; b++) {
                if (b == 0) {
                    fillFirstArrival();
                    continue;
                }
                chord.read(part, b - 1);
                System.arraycopy(arrival[b - 1], 0, spare, 0, DIAGRAMS);
                dropUnfit(spare);
                if (chord.isSilent()) {
                    spread(spare, RIGHT_FOOT, rightDone);
                    spread(rightDone, LEFT_FOOT, arrival[b]);
                } else {
                    fillLockedArrival(spare, arrival[b]);
                }
            }
            arrivalTo = Math.max(arrivalTo, beat);
        }

        private void fillFirstArrival() {
            for (int d = 0; d < DIAGRAMS; d++) {
                int moved = unlikeStart(harp.stands[d]);
                int left = 0;
                int right = 0;
                for (int p = 0; p < PEDALS && moved != 0; p++) {
                    if (Harp.standIn(moved, p) != 0) {
                        left += LEFT_FOOT >> p & 1;
                        right += RIGHT_FOOT >> p & 1;
                    }
                }
                arrival[0][d] = left > 1 || right > 1 ? NEVER : (left + right) * MOVE;
            }
        }

        /** Bits of the pedals that stand otherwise than start tells. */
        private int unlikeStart(int stands) {
            int unlike = 0;
            for (int p = 0; p < PEDALS; p++) {
                int told = part.starts[p];
                if (told >= 0) {
                    unlike |= (stands ^ told << 2 * p) & Harp.bitsOf(p);
                }
            }
            return unlike;
        }

        /** As fillLockedOnward, but the foot that is free comes behind the other, for all at once. */
        private void fillLockedArrival(int[] before, int[] row) {
            Arrays.fill(row, NEVER);
            Arrays.fill(leftDone, NEVER);
            Arrays.fill(rightDone, NEVER);
            for (int d = 0; d < DIAGRAMS; d++) {
                if (before[d] >= NEVER) {
                    continue;
                }
                int locks = chord.locksBy(harp.stands[d]);
                if ((locks & RIGHT_FOOT) == 0) {
                    bringByFoot(before[d], d, LEFT_FOOT & ~locks, leftDone);
                } else if ((locks & LEFT_FOOT) == 0) {
                    bringByFoot(before[d], d, RIGHT_FOOT & ~locks, rightDone);
                } else {
                    bringByBoth(before[d], d, locks, row);
                }
            }
            // what was before is no longer asked for
            spread(leftDone, RIGHT_FOOT, spare);
            lessen(row, spare);
            spread(rightDone, LEFT_FOOT, spare);
            lessen(row, spare);
        }

        private void bringByBoth(int price, int d, int locks, int[] into) {
            int n = reach(d, LEFT_FOOT & ~locks, byLeft);
            bringByFoot(price, d, RIGHT_FOOT & ~locks, into);
            for (int i = 1; i < n; i++) {
                bringByFoot(price + MOVE, byLeft[i], RIGHT_FOOT & ~locks, into);
            }
        }

        private void bringByFoot(int price, int d, int pedals, int[] into) {
            int n = reach(d, pedals, byRight);
            into[d] = Math.min(into[d], price);
            for (int i = 1; i < n; i++) {
                into[byRight[i]] = Math.min(into[byRight[i]], price + MOVE);
            }
        }

        private static void lessen(int[] row, int[] other) {
            for (int d = 0; d < DIAGRAMS; d++) {
                row[d] = Math.min(row[d], other[d]);
            }
        }
    }

    /** Rows of numbers of so many bits; of 0 bits: missing. */
    private static final class Sheets {
        static final int LONGEST = 30;
        private static final int SHEETS = 4;

        final int[] bits;
        final int[] sizes;
        final int[][] rows;

        Sheets() {
            bits = new int[SHEETS];
            sizes = new int[SHEETS];
            rows = new int[SHEETS][LONGEST];
        }

        static boolean isSheet(int s) {
            return s >= 0 && s < SHEETS;
        }

        static boolean isBits(int count) {
            return count == 0 || count == 8 || count == 16 || count == 32;
        }

        boolean isMissing(int s) {
            return bits[s] == 0;
        }

        int renew(int s, int width, int n) {
            bits[s] = width;
            sizes[s] = width == 0 ? 0 : n;
            Arrays.fill(rows[s], 0);
            return sizes[s];
        }

        void write(int s, int i, int v) {
            switch (bits[s]) {
                case 8:
                    rows[s][i] = (byte) v;
                    break;
                case 16:
                    rows[s][i] = (short) v;
                    break;
                default:
                    rows[s][i] = v;
                    break;
            }
        }

        /** Whether n numbers stand from one on; no sum that could wrap around is made. */
        boolean has(int s, int from, int n) {
            return from >= 0 && n >= 0 && from <= sizes[s] && n <= sizes[s] - from;
        }

        boolean hasAbove(int s, int limit) {
            for (int i = 0; i < sizes[s]; i++) {
                if (rows[s][i] > limit) {
                    return true;
                }
            }
            return false;
        }
    }
}
