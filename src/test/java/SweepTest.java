/**
 * Every call with numbers at, below and above each limit of the document, in several states:
 * SevenPedals must answer as Model does, and nothing may be thrown.
 */
public final class SweepTest {
    private static final int MIN = Integer.MIN_VALUE;
    private static final int MAX = Integer.MAX_VALUE;
    private static final int[] BEATS = {MIN, -1, 0, 3, 7, 8, 11, 12, MAX};
    private static final int[] PLAYED = {MIN, -1, 0, 1, 2, 8, 11, 12, 13, MAX};
    private static final int[] NOTES = {MIN, -1, 0, 1, 5, 6, MAX};
    private static final int[] KINDS = {MIN, -1, 0, 1, 2, 3, 4, MAX};
    private static final int[] PITCHES = {MIN, -2, -1, 0, 72, 73, 100, 101, MAX};
    private static final int[] PEDALS = {MIN, -1, 0, 1, 5, 6, 7, MAX};
    private static final int[] STANDS = {MIN, -2, -1, 0, 1, 2, 3, MAX};
    private static final int[] STRINGS = {MIN, -1, 0, 6, 7, 40, 41, 42, MAX};
    private static final int[] DIAGRAMS = {MIN, -1, 0, 1, 1093, 2185, 2186, 2187, MAX};
    private static final int[] PLACES = {MIN, -1, 0, 1, 7, 34, 41, 42, MAX};
    private static final int[] SHIFTS = {MIN, -13, -12, -1, 0, 1, 12, 13, MAX};
    private static final int[] SHEETS = {MIN, -1, 0, 1, 2, 3, 4, MAX};
    private static final int[] BITS = {MIN, -8, 0, 1, 7, 8, 9, 16, 24, 32, 64, MAX};
    private static final int[] SIZES = {MIN, -1, 0, 1, 12, 13, 29, 30, 31, MAX};
    private static final int[] NUMBERS = {MIN, -1, 0, 1, 3, 4, 11, 12, 29, 30, MAX};
    private static final int[] VALUES = {MIN, -129, -128, -2, -1, 0, 100, 101, 128, 255, 256, 65535, 65536, MAX};
    private static final int[] WHATS = {MIN, -1, 0, 1, 2, 3, 4, MAX};

    private static final Check check = new Check();

    private final String state;
    private final SevenPedals x = new SevenPedals();
    private final Model y = new Model();

    private SweepTest(String state) {
        this.state = state;
        switch (state) {
            case "chords" -> writeChords();
            case "no way" -> writeNoWay();
            case "full" -> writeFull();
            default -> { }
        }
    }

    public static void main(String[] args) {
        for (String state : new String[] {"new", "chords", "no way", "full"}) {
            SweepTest sweep = new SweepTest(state);
            sweep.part();
            sweep.diagrams();
            sweep.way();
            sweep.handsAndRuns();
            sweep.sheets();
            sweep.same("all", sweep.x.all(3), sweep.y.all(3));
        }
        check.end();
    }

    private void same(String call, int got, int want) {
        check.due(state + ": " + call, got, want);
    }

    // ---- the states

    private void addNote(int beat, int kind, int pitch, boolean rings) {
        same("note", x.note(beat, kind, pitch, rings), y.note(beat, kind, pitch, rings));
    }

    private void writeChords() {
        addNote(0, 0, 24, true);
        addNote(0, 1, 40, false);
        addNote(3, 0, 25, true);
        addNote(3, 3, 50, true);
        addNote(7, 2, 61, true);
        addNote(8, 0, 73, true);
        addNote(11, 0, -1, false);
        same("mark", x.mark(3, 6, 1), y.mark(3, 6, 1));
        same("mark", x.mark(7, 5, 0), y.mark(7, 5, 0));
        same("start", x.start(0, 1), y.start(0, 1));
        same("start", x.start(5, 2), y.start(5, 2));
        makeSheet(0, 8, 4);
        makeSheet(1, 8, 12);
        makeSheet(2, 16, 30);
    }

    private void writeNoWay() {
        writeChords();
        same("beats", x.beats(12), y.beats(12));
        makeSheet(3, 16, 0);
    }

    private void writeFull() {
        for (int b = 0; b < 12; b++) {
            for (int i = 0; i < 6; i++) {
                addNote(b, i % 4, 14 + 9 * i + b % 2, b % 3 == i % 3);
            }
            for (int p = 0; p < 7; p++) {
                same("mark", x.mark(b, p, 1), y.mark(b, p, 1));
            }
        }
        for (int p = 0; p < 7; p++) {
            same("start", x.start(p, 1), y.start(p, 1));
        }
        for (int s = 0; s < 4; s++) {
            makeSheet(s, 32, 30);
        }
    }

    private void makeSheet(int s, int bits, int n) {
        same("sheet", x.sheet(s, bits, n), y.sheet(s, bits, n));
        for (int i = 0; i < n; i++) {
            same("put", x.put(s, i, 7 * i % 100), y.put(s, i, 7 * i % 100));
        }
    }

    /** An act that was done is undone, so that the next one meets the same state. */
    private void sameAct(String call, int got, int want) {
        same(call, got, want);
        if (want > -100000) {
            same("moves behind " + call, x.moves(), y.moves());
            same("undo of " + call, x.undo(), y.undo());
        }
    }

    // ---- the calls

    private void part() {
        for (int n : PLAYED) {
            sameAct("beats(" + n + ")", x.beats(n), y.beats(n));
        }
        for (int by : SHIFTS) {
            sameAct("shift(" + by + ")", x.shift(by), y.shift(by));
        }
        for (int beat : BEATS) {
            sameAct("drop(" + beat + ")", x.drop(beat), y.drop(beat));
            notesOf(beat);
            for (int pedal : PEDALS) {
                for (int stand : STANDS) {
                    sameAct("mark(" + beat + ", " + pedal + ", " + stand + ")",
                        x.mark(beat, pedal, stand), y.mark(beat, pedal, stand));
                }
            }
        }
        for (int pedal : PEDALS) {
            for (int stand : STANDS) {
                sameAct("start(" + pedal + ", " + stand + ")", x.start(pedal, stand), y.start(pedal, stand));
            }
        }
    }

    private void notesOf(int beat) {
        for (int kind : KINDS) {
            for (int pitch : PITCHES) {
                boolean rings = pitch % 2 == 0;
                sameAct("note(" + beat + ", " + kind + ", " + pitch + ")",
                    x.note(beat, kind, pitch, rings), y.note(beat, kind, pitch, rings));
            }
        }
        for (int note : NOTES) {
            String at = "(" + beat + ", " + note + ", ";
            for (int kind : KINDS) {
                same("as" + at + kind + ")", x.as(beat, note, kind), y.as(beat, note, kind));
                same("of" + at + kind + ")", x.of(beat, note, kind), y.of(beat, note, kind));
            }
        }
    }

    private void diagrams() {
        for (int diagram : DIAGRAMS) {
            for (int string : STRINGS) {
                same("pitch(" + string + ", " + diagram + ")", x.pitch(string, diagram), y.pitch(string, diagram));
            }
            for (int beat : BEATS) {
                same("does(" + beat + ", " + diagram + ")", x.does(beat, diagram), y.does(beat, diagram));
                for (int note : NOTES) {
                    same("string(" + beat + ", " + note + ", " + diagram + ")",
                        x.string(beat, note, diagram), y.string(beat, note, diagram));
                }
            }
        }
        for (int beat : BEATS) {
            same("many(" + beat + ")", x.many(beat), y.many(beat));
        }
    }

    private void way() {
        same("moves", x.moves(), y.moves());
        same("ways", x.ways(), y.ways());
        same("stuck", x.stuck(), y.stuck());
        same("hard", x.hard(), y.hard());
        for (int beat : BEATS) {
            same("diagram(" + beat + ")", x.diagram(beat), y.diagram(beat));
            same("foot(" + beat + ", false)", x.foot(beat, false), y.foot(beat, false));
            same("foot(" + beat + ", true)", x.foot(beat, true), y.foot(beat, true));
            for (int pedal : PEDALS) {
                same("stand(" + beat + ", " + pedal + ")", x.stand(beat, pedal), y.stand(beat, pedal));
                same("without(" + beat + ", " + pedal + ")", x.without(beat, pedal), y.without(beat, pedal));
            }
        }
    }

    private void handsAndRuns() {
        for (int diagram : DIAGRAMS) {
            for (int beat : BEATS) {
                same("split(" + beat + ", " + diagram + ")", x.split(beat, diagram), y.split(beat, diagram));
            }
            for (int from : STRINGS) {
                for (int to : STRINGS) {
                    String run = "(" + from + ", " + to + ", " + diagram;
                    same("plain" + run + ")", x.plain(from, to, diagram), y.plain(from, to, diagram));
                    for (int i : PLACES) {
                        same("run" + run + ", " + i + ")", x.run(from, to, diagram, i), y.run(from, to, diagram, i));
                    }
                }
            }
        }
        for (int what : WHATS) {
            same("all(" + what + ")", x.all(what), y.all(what));
        }
    }

    private void sheets() {
        for (int s : SHEETS) {
            sameAct("tune(" + s + ")", x.tune(s), y.tune(s));
            for (int t : SHEETS) {
                copies(s, t);
            }
            for (int i : NUMBERS) {
                for (int v : VALUES) {
                    same("put(" + s + ", " + i + ", " + v + ")", x.put(s, i, v), y.put(s, i, v));
                    sameAct("tune behind it", x.tune(s), y.tune(s));
                }
            }
        }
        for (int s : SHEETS) {
            for (int bits : BITS) {
                for (int n : SIZES) {
                    same("sheet(" + s + ", " + bits + ", " + n + ")", x.sheet(s, bits, n), y.sheet(s, bits, n));
                    sameAct("tune behind it", x.tune(s), y.tune(s));
                    same("put behind it", x.put(s, n, 1), y.put(s, n, 1));
                }
            }
        }
    }

    private void copies(int s, int t) {
        for (int from : NUMBERS) {
            for (int to : NUMBERS) {
                for (int n : NUMBERS) {
                    same("copy(" + s + ", " + from + ", " + t + ", " + to + ", " + n + ")",
                        x.copy(s, from, t, to, n), y.copy(s, from, t, to, n));
                }
            }
        }
    }
}
