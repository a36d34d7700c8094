/** Promises 1 to 9: each sentence that names an edge. */
public final class EdgePartTest {
    private static final Check check = new Check();
    private static final int MIN = Integer.MIN_VALUE;
    private static final int MAX = Integer.MAX_VALUE;

    public static void main(String[] args) {
        newObject();
        beats();
        beatsBeyond();
        beatsOthersStay();
        note();
        noteBeyond();
        noteFull();
        drop();
        dropFindings();
        as();
        asFindings();
        of();
        ofBeyond();
        shift();
        shiftBeyond();
        shiftSize();
        mark();
        start();
        check.end();
    }

    private static void newObject() {
        check.says(1, "8 BEATS, no NOTES, no MARKS, no START; sheets MISSING.");
        SevenPedals x = new SevenPedals();
        check.due("beats", x.all(0), 8);
        check.due("notes", x.all(1), 0);
        check.due("marks", x.all(2), 0);
        check.due("findings", x.all(3), 0);
        check.due("shift", x.shift(0), 0);
        check.due("undo", x.undo(), 0);
        for (int b = 0; b < 12; b++) {
            check.due("no note", x.of(b, 0, 0), Check.BEYOND);
            check.due("nothing to drop", x.drop(b), Check.NONE);
            check.due("all diagrams do", x.many(b), 2187);
            for (int p = 0; p < 7; p++) {
                check.due("no mark", x.without(b, p), Check.KIND);
            }
        }
        for (int p = 0; p < 7; p++) {
            check.due("no start", x.start(p, -1), -1);
        }
        for (int s = 0; s < 4; s++) {
            check.due("put", x.put(s, 0, 0), Check.MISSING);
            check.due("tune", x.tune(s), Check.MISSING);
            check.due("copy", x.copy(s, 0, s, 0, 0), Check.MISSING);
        }
        SevenPedals y = new SevenPedals();
        check.due("nothing to undo", y.undo(), Check.NONE);
        check.due("moves", y.moves(), 0);
        check.due("ways", y.ways(), 2187);
        check.due("stuck", y.stuck(), -1);
        check.due("hard", y.hard(), -1);
        check.due("one finding", y.all(3), 1);
    }

    private static void beats() {
        check.says(2, "n BEATS are played (1 to 12): how many were.");
        SevenPedals x = new SevenPedals();
        int were = 8;
        for (int n = 1; n <= 12; n++) {
            check.due("beats(" + n + ")", x.beats(n), were);
            check.due("played", x.all(0), n);
            check.due("the last of them", x.diagram(n - 1), 0);
            check.due("behind it", x.diagram(n), Check.BEYOND);
            were = n;
        }
        check.due("as many again", x.beats(12), 12);
        check.due("few again", x.beats(1), 12);
    }

    private static void beatsBeyond() {
        check.says(2, "BEYOND.");
        SevenPedals x = new SevenPedals();
        for (int n : new int[] {MIN, -1, 0, 13, 14, MAX}) {
            check.due("beats(" + n + ")", x.beats(n), Check.BEYOND);
            check.due("still", x.all(0), 8);
        }
        check.due("nothing to undo", x.undo(), Check.NONE);
    }

    private static void beatsOthersStay() {
        check.says(2, "(NOTES of others stay.)");
        SevenPedals x = new SevenPedals();
        x.beats(12);
        x.note(11, 3, 60, true);
        x.note(1, 1, 40, false);
        x.mark(11, 6, 2);
        x.beats(1);
        check.due("notes", x.all(1), 2);
        check.due("marks", x.all(2), 1);
        check.due("kind", x.of(11, 0, 0), 3);
        check.due("pitch", x.of(11, 0, 1), 60);
        check.due("rings", x.of(11, 0, 2), 1);
        check.due("the other", x.of(1, 0, 1), 40);
        check.due("one may be added", x.note(11, 0, 20, false), 1);
        check.due("and dropped", x.drop(11), 1);
        x.beats(12);
        check.due("the mark", x.mark(11, 6, -1), 2);
    }

    private static void note() {
        check.says(3, "One more NOTE of a BEAT: its number.");
        SevenPedals x = new SevenPedals();
        check.due("of the first beat", x.note(0, 0, -1, false), 0);
        check.due("of the last beat", x.note(11, 3, 100, true), 0);
        for (int i = 1; i < 6; i++) {
            check.due("one more", x.note(11, 3, 100 - i, true), i);
        }
        check.due("as many as were", x.all(1), 7);
        check.due("the same once more", x.note(0, 0, -1, false), 1);
    }

    private static void noteBeyond() {
        check.says(3, "BEYOND: no such BEAT, kind, or PITCH.");
        SevenPedals x = new SevenPedals();
        for (int beat : Given.NO_BEATS) {
            check.due("beat " + beat, x.note(beat, 0, 0, true), Check.BEYOND);
        }
        for (int kind : Given.NO_KINDS) {
            check.due("kind " + kind, x.note(0, kind, 0, true), Check.BEYOND);
        }
        for (int pitch : Given.NO_PITCHES) {
            check.due("pitch " + pitch, x.note(0, 0, pitch, true), Check.BEYOND);
        }
        check.due("no note", x.all(1), 0);
        check.due("nothing to undo", x.undo(), Check.NONE);
    }

    private static void noteFull() {
        check.says(3, "FULL: it has 6.");
        SevenPedals x = new SevenPedals();
        for (int i = 0; i < 6; i++) {
            x.note(4, 0, i, false);
        }
        check.due("a seventh", x.note(4, 1, 50, true), Check.FULL);
        check.due("asked again", x.note(4, 1, 50, true), Check.FULL);
        check.due("six are there", x.all(1), 6);
        check.due("the last is as it was", x.of(4, 5, 1), 5);
        check.due("its kind, too", x.of(4, 5, 0), 0);
        check.due("there is no seventh", x.of(4, 6, 1), Check.BEYOND);
        check.due("the next beat is not full", x.note(5, 0, 0, false), 0);
        check.due("the beat ahead is not full", x.note(3, 0, 0, false), 0);
        for (int beat : Given.NO_BEATS) {
            check.due("BEYOND goes first, beat " + beat, x.note(beat, 0, 0, true), Check.BEYOND);
        }
        for (int kind : Given.NO_KINDS) {
            check.due("BEYOND goes first, kind " + kind, x.note(4, kind, 0, true), Check.BEYOND);
        }
        for (int pitch : Given.NO_PITCHES) {
            check.due("BEYOND goes first, pitch " + pitch, x.note(4, 0, pitch, true), Check.BEYOND);
        }
        check.due("drop", x.drop(4), 5);
        check.due("room again", x.note(4, 1, 50, true), 5);
        check.due("full again", x.note(4, 1, 50, true), Check.FULL);
        check.due("undone", x.undo(), 9);
        check.due("room again", x.note(4, 3, 51, true), 5);
    }

    private static void drop() {
        check.says(4, "The latest NOTE of a BEAT goes: how many it has.");
        SevenPedals x = new SevenPedals();
        for (int i = 0; i < 6; i++) {
            x.note(11, 0, 10 + i, false);
        }
        for (int left = 5; left >= 0; left--) {
            check.due("drop", x.drop(11), left);
            check.due("it is gone", x.of(11, left, 0), Check.BEYOND);
            if (left > 0) {
                check.due("the others stay", x.of(11, left - 1, 1), 10 + left - 1);
            }
        }
        check.due("none is left", x.all(1), 0);
        check.due("a new one is number 0", x.note(11, 2, 7, true), 0);
    }

    private static void dropFindings() {
        check.says(4, "BEYOND.");
        SevenPedals x = new SevenPedals();
        for (int beat : Given.NO_BEATS) {
            check.due("beat " + beat, x.drop(beat), Check.BEYOND);
        }
        check.says(4, "NONE: it has none.");
        for (int b = 0; b < 12; b++) {
            check.due("drop", x.drop(b), Check.NONE);
        }
        x.note(6, 0, 0, false);
        check.due("the beat ahead has none", x.drop(5), Check.NONE);
        check.due("the next has none", x.drop(7), Check.NONE);
        check.due("drop", x.drop(6), 0);
        check.due("now it has none", x.drop(6), Check.NONE);
        check.due("undo brings it back", x.undo(), 1);
        check.due("drop", x.drop(6), 0);
    }

    private static void as() {
        check.says(5, "A NOTE as one of a kind: its PITCH.");
        SevenPedals x = new SevenPedals();
        for (int kind = 0; kind < 4; kind++) {
            x.note(kind, kind, -1, false);
            x.note(kind, kind, 100, false);
            check.due("as its own, pitch -1", x.as(kind, 0, kind), -1);
            check.due("as its own, pitch 100", x.as(kind, 1, kind), 100);
            check.due("as a note", x.as(kind, 1, 0), 100);
        }
        check.due("a high one as a harmonic", x.as(3, 1, 1), 100);
        check.due("no finding", x.all(3), 0);
    }

    private static void asFindings() {
        check.says(5, "BEYOND: no such BEAT, NOTE, or kind.");
        SevenPedals x = new SevenPedals();
        check.due("an empty beat", x.as(0, 0, 0), Check.BEYOND);
        x.note(0, 2, 33, false);
        for (int beat : Given.NO_BEATS) {
            check.due("beat " + beat, x.as(beat, 0, 0), Check.BEYOND);
        }
        for (int note : new int[] {MIN, -1, 1, 6, MAX}) {
            check.due("note " + note, x.as(0, note, 0), Check.BEYOND);
        }
        for (int kind : Given.NO_KINDS) {
            check.due("kind " + kind, x.as(0, 0, kind), Check.BEYOND);
        }
        check.says(5, "KIND: it is not of that kind, nor of one under it.");
        check.due("a muted one as a harmonic", x.as(0, 0, 1), Check.KIND);
        check.due("a muted one as a high one", x.as(0, 0, 3), Check.KIND);
        x.note(0, 0, 34, false);
        x.note(0, 1, 35, false);
        x.note(0, 3, 36, false);
        for (int kind = 1; kind < 4; kind++) {
            check.due("a note as kind " + kind, x.as(0, 1, kind), Check.KIND);
        }
        check.due("a harmonic as a muted one", x.as(0, 2, 2), Check.KIND);
        check.due("a harmonic as a high one", x.as(0, 2, 3), Check.KIND);
        check.due("a high one as a muted one", x.as(0, 3, 2), Check.KIND);
        x.drop(0);
        check.due("it went: BEYOND goes first", x.as(0, 3, 2), Check.BEYOND);
    }

    private static void of() {
        check.says(6, "Of a NOTE: 0 its kind, 1 PITCH, 2 whether it RINGS (1, 0).");
        SevenPedals x = new SevenPedals();
        for (int kind = 0; kind < 4; kind++) {
            x.note(11, kind, -1, true);
            check.due("kind", x.of(11, kind, 0), kind);
            check.due("the least pitch is no finding", x.of(11, kind, 1), -1);
            check.due("rings", x.of(11, kind, 2), kind == 2 ? 0 : 1);
            x.note(0, kind, 100, false);
            check.due("the greatest pitch", x.of(0, kind, 1), 100);
            check.due("rings not", x.of(0, kind, 2), 0);
        }
        check.due("no finding", x.all(3), 0);
    }

    private static void ofBeyond() {
        check.says(6, "BEYOND: no such BEAT, NOTE, or another what.");
        SevenPedals x = new SevenPedals();
        for (int what = 0; what < 3; what++) {
            check.due("an empty beat", x.of(0, 0, what), Check.BEYOND);
        }
        x.note(0, 0, 5, false);
        for (int beat : Given.NO_BEATS) {
            check.due("beat " + beat, x.of(beat, 0, 1), Check.BEYOND);
        }
        for (int note : new int[] {MIN, -1, 1, 6, MAX}) {
            check.due("note " + note, x.of(0, note, 1), Check.BEYOND);
        }
        for (int what : new int[] {MIN, -1, 3, 4, MAX}) {
            check.due("what " + what, x.of(0, 0, what), Check.BEYOND);
        }
        x.drop(0);
        check.due("it went", x.of(0, 0, 1), Check.BEYOND);
        for (int i = 0; i < 6; i++) {
            x.note(0, 0, i, false);
        }
        check.due("the sixth", x.of(0, 5, 1), 5);
        check.due("no seventh, though the next beat has notes", x.of(0, 6, 1), Check.BEYOND);
        x.note(1, 0, 50, false);
        check.due("no seventh, though the next beat has notes", x.of(0, 6, 1), Check.BEYOND);
        check.due("none ahead of the first", x.of(1, -1, 1), Check.BEYOND);
    }

    private static void shift() {
        check.says(7, "All NOTES of all BEATS are by so much higher (-12 to 12): how many there are.");
        SevenPedals x = new SevenPedals();
        check.due("none, up", x.shift(12), 0);
        check.due("none, down", x.shift(-12), 0);
        for (int b = 0; b < 12; b++) {
            for (int i = 0; i < 6; i++) {
                x.note(b, i % 4, 40 + i, true);
            }
        }
        x.beats(1);
        check.due("all, up", x.shift(12), 72);
        check.due("the first", x.of(0, 0, 1), 52);
        check.due("the last, which is not played", x.of(11, 5, 1), 57);
        check.due("none by none", x.shift(0), 72);
        check.due("the first", x.of(0, 0, 1), 52);
        check.due("all, down", x.shift(-12), 72);
        check.due("the first", x.of(0, 0, 1), 40);
        check.due("its kind", x.of(11, 3, 0), 3);
        check.due("it rings", x.of(11, 3, 2), 1);
        check.due("the muted one does not", x.of(11, 2, 2), 0);
    }

    private static void shiftBeyond() {
        check.says(7, "BEYOND: by.");
        SevenPedals x = new SevenPedals();
        for (int by : new int[] {MIN, -14, -13, 13, 14, MAX}) {
            check.due("shift(" + by + ")", x.shift(by), Check.BEYOND);
        }
        check.due("nothing to undo", x.undo(), Check.NONE);
        x.note(0, 0, 50, false);
        for (int by : new int[] {MIN, -13, 13, MAX}) {
            check.due("shift(" + by + ")", x.shift(by), Check.BEYOND);
            check.due("the note", x.of(0, 0, 1), 50);
        }
        x.note(0, 0, 100, false);
        check.due("BEYOND goes ahead of SIZE", x.shift(13), Check.BEYOND);
        check.due("BEYOND goes ahead of SIZE", x.shift(MAX), Check.BEYOND);
    }

    private static void shiftSize() {
        check.says(7, "SIZE: a PITCH would be below -1 or above 100.");
        for (int by = 1; by <= 12; by++) {
            SevenPedals x = new SevenPedals();
            x.note(3, 0, 50, false);
            x.note(11, 2, 101 - by, false);
            check.due("to 101", x.shift(by), Check.SIZE);
            check.due("none went up", x.of(3, 0, 1), 50);
            check.due("to 100", x.shift(by - 1), 2);
            check.due("at 100", x.of(11, 0, 1), 100);
            SevenPedals y = new SevenPedals();
            y.note(3, 0, 50, false);
            y.note(11, 2, -2 + by, false);
            check.due("to -2", y.shift(-by), Check.SIZE);
            check.due("none went down", y.of(3, 0, 1), 50);
            check.due("to -1", y.shift(1 - by), 2);
            check.due("at -1", y.of(11, 0, 1), -1);
        }
        SevenPedals x = new SevenPedals();
        for (int i = 0; i < 5; i++) {
            x.note(0, 0, 50, false);
        }
        x.note(0, 0, 100, false);
        check.due("the sixth is too high", x.shift(1), Check.SIZE);
        x.drop(0);
        check.due("it went", x.shift(1), 5);
    }

    private static void mark() {
        check.says(8, "A MARK at a BEAT for a PEDAL (stand -1: none): what was marked (-1: nothing, no finding).");
        SevenPedals x = new SevenPedals();
        for (int b = 0; b < 12; b++) {
            for (int p = 0; p < 7; p++) {
                check.due("none yet", x.mark(b, p, -1), -1);
                check.due("marked", x.mark(b, p, (b + p) % 3), -1);
            }
        }
        check.due("all", x.all(2), 84);
        for (int b = 0; b < 12; b++) {
            for (int p = 0; p < 7; p++) {
                check.due("what was", x.mark(b, p, 2), (b + p) % 3);
                check.due("as it was", x.mark(b, p, 2), 2);
                check.due("gone", x.mark(b, p, -1), 2);
                check.due("none", x.mark(b, p, 0), -1);
            }
        }
        check.due("all", x.all(2), 84);
        check.due("no finding", x.all(3), 0);
        check.says(8, "BEYOND.");
        SevenPedals y = new SevenPedals();
        for (int beat : Given.NO_BEATS) {
            check.due("beat " + beat, y.mark(beat, 0, 0), Check.BEYOND);
            check.due("beat " + beat + ", none", y.mark(beat, 0, -1), Check.BEYOND);
        }
        for (int pedal : Given.NO_PEDALS) {
            check.due("pedal " + pedal, y.mark(0, pedal, 0), Check.BEYOND);
            check.due("pedal " + pedal + " of the last beat", y.mark(11, pedal, -1), Check.BEYOND);
        }
        for (int stand : Given.NO_STANDS) {
            check.due("stand " + stand, y.mark(0, 0, stand), Check.BEYOND);
        }
        check.due("no mark", y.all(2), 0);
        check.due("nothing to undo", y.undo(), Check.NONE);
    }

    private static void start() {
        check.says(9, "START for a PEDAL (stand -1: none): what was told (-1: nothing, no finding).");
        SevenPedals x = new SevenPedals();
        for (int p = 0; p < 7; p++) {
            check.due("none yet", x.start(p, -1), -1);
            check.due("told", x.start(p, p % 3), -1);
        }
        for (int p = 0; p < 7; p++) {
            check.due("what was", x.start(p, 2), p % 3);
            check.due("as it was", x.start(p, 2), 2);
            check.due("gone", x.start(p, -1), 2);
            check.due("none", x.start(p, 0), -1);
        }
        check.due("no mark", x.all(2), 0);
        check.due("no finding", x.all(3), 0);
        check.says(9, "BEYOND.");
        SevenPedals y = new SevenPedals();
        for (int pedal : Given.NO_PEDALS) {
            check.due("pedal " + pedal, y.start(pedal, 0), Check.BEYOND);
            check.due("pedal " + pedal + ", none", y.start(pedal, -1), Check.BEYOND);
        }
        for (int stand : Given.NO_STANDS) {
            check.due("stand " + stand, y.start(6, stand), Check.BEYOND);
        }
        check.due("nothing to undo", y.undo(), Check.NONE);
        check.due("nothing was told", y.start(6, -1), -1);
    }
}
