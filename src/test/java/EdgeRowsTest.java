/** Promises 23 to 30: each sentence that names an edge. 1093 has every pedal at stand 1. */
public final class EdgeRowsTest {
    private static final Check check = new Check();
    private static final int MIN = Integer.MIN_VALUE;
    private static final int MAX = Integer.MAX_VALUE;

    public static void main(String[] args) {
        run();
        plain();
        sheet();
        sheetMissing();
        sheetFindings();
        put();
        putFindings();
        copy();
        copyWithinASheet();
        copyFindings();
        copyBeyond();
        tune();
        tuneNoNote();
        tuneFindings();
        undo();
        undoTwenty();
        undoKeepsRefusedActsOut();
        all();
        allFindings();
        check.end();
    }

    /** A number of a sheet of at most 12, seen by the note that tune makes of it. */
    private static int number(SevenPedals x, int s, int i) {
        x.tune(s);
        return x.of(i, 0, 1);
    }

    private static void run() {
        check.says(23, "PITCH i (from 0 on) of a RUN.");
        SevenPedals x = new SevenPedals();
        check.due("the first", x.run(0, 41, 0, 0), -1);
        check.due("the last", x.run(0, 41, 2186, 41), 72);
        check.due("down, the first", x.run(41, 0, 2186, 0), 72);
        check.due("down, the last", x.run(41, 0, 0, 41), -1);
        check.due("of one string", x.run(0, 0, 0, 0), -1);
        check.due("no finding", x.all(3), 0);
        check.says(23, "BEYOND: no such STRINGS, DIAGRAM, or place in it.");
        for (int string : Given.NO_STRINGS) {
            check.due("from " + string, x.run(string, 0, 0, 0), Check.BEYOND);
            check.due("to " + string, x.run(0, string, 0, 0), Check.BEYOND);
            check.due("from and to " + string, x.run(string, string, 0, 0), Check.BEYOND);
        }
        for (int diagram : Given.NO_DIAGRAMS) {
            check.due("diagram " + diagram, x.run(0, 41, diagram, 0), Check.BEYOND);
        }
        for (int i : new int[] {MIN, -1, 42, MAX}) {
            check.due("place " + i, x.run(0, 41, 0, i), Check.BEYOND);
            check.due("place " + i + ", down", x.run(41, 0, 0, i), Check.BEYOND);
        }
        for (int n = 1; n < 42; n++) {
            check.due("the last of it", x.run(41 - n, 41, 1093, n), 71);
            check.due("behind it", x.run(41 - n, 41, 1093, n + 1), Check.BEYOND);
            check.due("down, the last of it", x.run(n, 0, 1093, n), 0);
            check.due("down, behind it", x.run(n, 0, 1093, n + 1), Check.BEYOND);
        }
    }

    private static void plain() {
        check.says(24, "PLAIN of a RUN.");
        SevenPedals x = new SevenPedals();
        for (int s = 0; s < 42; s++) {
            check.due("one string", x.plain(s, s, 0), 1);
            check.due("up to the last", x.plain(s, 41, 1093), 42 - s);
            check.due("down to the first", x.plain(s, 0, 1093), s + 1);
        }
        int bAsC = 1093 + 729;
        check.due("B sharp as C, five times", x.plain(0, 41, bAsC), 37);
        check.due("down", x.plain(41, 0, bAsC), 37);
        check.due("but not within an octave", x.plain(7, 13, bAsC), 7);
        check.due("B sharp and the next C", x.plain(13, 14, bAsC), 1);
        check.says(24, "BEYOND.");
        for (int string : Given.NO_STRINGS) {
            check.due("from " + string, x.plain(string, 0, 0), Check.BEYOND);
            check.due("to " + string, x.plain(0, string, 0), Check.BEYOND);
        }
        for (int diagram : Given.NO_DIAGRAMS) {
            check.due("diagram " + diagram, x.plain(0, 41, diagram), Check.BEYOND);
        }
    }

    private static void sheet() {
        check.says(25, "A sheet has n numbers, all 0, of 8, 16 or 32 bits; bits 0: it is MISSING: n (0).");
        SevenPedals x = new SevenPedals();
        for (int bits = 8; bits <= 32; bits *= 2) {
            for (int s = 0; s < 4; s++) {
                check.due("thirty", x.sheet(s, bits, 30), 30);
                check.due("the last of thirty", x.put(s, 29, 9), 0);
                check.due("one", x.sheet(s, bits, 1), 1);
                check.due("the first", x.put(s, 0, 9), 0);
                check.due("behind it", x.put(s, 1, 9), Check.BEYOND);
                check.due("twelve", x.sheet(s, bits, 12), 12);
                check.due("twelve notes", x.tune(s), 12);
                for (int i = 0; i < 12; i++) {
                    check.due("all 0", x.of(i, 0, 1), 0);
                }
                check.due("none", x.sheet(s, bits, 0), 0);
                check.due("it has no number", x.put(s, 0, 9), Check.BEYOND);
                check.due("it is not missing", x.tune(s), 0);
            }
        }
        x.sheet(0, 8, 30);
        for (int i = 0; i < 30; i++) {
            x.put(0, i, 77);
        }
        x.sheet(0, 8, 30);
        x.sheet(1, 8, 12);
        for (int from = 0; from <= 18; from += 9) {
            x.copy(0, from, 1, 0, 12);
            for (int i = 0; i < 12; i++) {
                check.due("all 0 again", number(x, 1, i), 0);
            }
        }
    }

    private static void sheetMissing() {
        check.says(25, "bits 0: it is MISSING: n (0).");
        SevenPedals x = new SevenPedals();
        check.due("one that is missing", x.sheet(0, 0, 0), 0);
        x.sheet(1, 16, 5);
        check.due("one that is there", x.sheet(1, 0, 0), 0);
        check.due("put", x.put(1, 0, 0), Check.MISSING);
        check.due("tune", x.tune(1), Check.MISSING);
        check.due("with n, which is 0 then", x.sheet(1, 0, 30), 0);
        check.due("put", x.put(1, 0, 0), Check.MISSING);
        check.due("n is asked for all the same", x.sheet(1, 0, -1), Check.SIZE);
        check.due("n is asked for all the same", x.sheet(1, 0, 31), Check.BEYOND);
        x.sheet(2, 8, 3);
        check.due("of others nothing goes", x.put(2, 2, 1), 0);
    }

    private static void sheetFindings() {
        check.says(25, "BEYOND: no such sheet, or bits.");
        SevenPedals x = new SevenPedals();
        x.sheet(0, 8, 3);
        x.put(0, 2, 5);
        for (int s : Given.NO_SHEETS) {
            check.due("sheet " + s, x.sheet(s, 8, 1), Check.BEYOND);
            check.due("ahead of SIZE, sheet " + s, x.sheet(s, 8, -1), Check.BEYOND);
        }
        for (int bits : new int[] {MIN, -32, -8, -1, 1, 7, 9, 15, 17, 24, 31, 33, 64, MAX}) {
            check.due("bits " + bits, x.sheet(0, bits, 1), Check.BEYOND);
            check.due("ahead of SIZE, bits " + bits, x.sheet(0, bits, -1), Check.BEYOND);
        }
        check.says(25, "SIZE: n is below 0.");
        check.due("n -1", x.sheet(0, 8, -1), Check.SIZE);
        check.due("n min", x.sheet(0, 8, MIN), Check.SIZE);
        check.says(25, "BEYOND: n is above 30.");
        check.due("n 31", x.sheet(0, 8, 31), Check.BEYOND);
        check.due("n max", x.sheet(0, 8, MAX), Check.BEYOND);
        check.due("the sheet stands", number(x, 0, 2), 5);
        check.due("with three numbers", x.put(0, 3, 0), Check.BEYOND);
    }

    private static void put() {
        check.says(26, "Number i of a sheet becomes v (its lowest bits): 0.");
        SevenPedals x = new SevenPedals();
        int[][] cases = {
            {8, 100, 100}, {8, 256 + 100, 100}, {8, -1, -1}, {8, 255, -1}, {8, 256, 0}, {8, -256, 0},
            {8, MIN, 0}, {8, MAX, -1}, {8, 0x1234ff00 + 77, 77}, {8, -257, -1},
            {16, 65535, -1}, {16, 65536, 0}, {16, 65536 + 100, 100}, {16, MIN, 0}, {16, MAX, -1},
            {16, -65536 + 99, 99}, {32, 100, 100}, {32, -1, -1}, {32, 0, 0},
        };
        for (int[] one : cases) {
            x.sheet(0, one[0], 2);
            check.due("put", x.put(0, 1, one[1]), 0);
            check.due(one[0] + " bits of " + one[1], number(x, 0, 1), one[2]);
            check.due("the other number", number(x, 0, 0), 0);
        }
        int[][] tooLow = {{8, 128}, {8, 254}, {8, -128}, {16, 32768}, {16, 65534}, {32, MIN}, {32, -2}, {16, -2}};
        for (int[] one : tooLow) {
            x.sheet(0, one[0], 1);
            x.put(0, 0, one[1]);
            check.due(one[0] + " bits of " + one[1] + " are below -1", x.tune(0), 0);
        }
        int[][] tooHigh = {{8, 101}, {8, 127}, {8, -129}, {16, 128}, {16, 255}, {16, 32767}, {16, -32769},
            {32, 32768}, {32, 65535}, {32, 65536}, {32, MAX}};
        for (int[] one : tooHigh) {
            x.sheet(0, one[0], 1);
            x.put(0, 0, one[1]);
            check.due(one[0] + " bits of " + one[1] + " are above 100", x.tune(0), Check.BEYOND);
        }
    }

    private static void putFindings() {
        check.says(26, "BEYOND: no such sheet.");
        SevenPedals x = new SevenPedals();
        for (int s : Given.NO_SHEETS) {
            check.due("sheet " + s, x.put(s, 0, 0), Check.BEYOND);
        }
        check.says(26, "MISSING.");
        for (int i : new int[] {MIN, -1, 0, 30, MAX}) {
            check.due("ahead of number " + i, x.put(0, i, 0), Check.MISSING);
        }
        check.says(26, "BEYOND: no such number.");
        x.sheet(0, 8, 3);
        x.sheet(1, 8, 0);
        x.sheet(2, 8, 30);
        for (int i : new int[] {MIN, -1, 3, 30, MAX}) {
            check.due("of three, number " + i, x.put(0, i, 1), Check.BEYOND);
        }
        for (int i : new int[] {MIN, -1, 0, 1, MAX}) {
            check.due("of none, number " + i, x.put(1, i, 1), Check.BEYOND);
        }
        for (int i : new int[] {MIN, -1, 30, 31, MAX}) {
            check.due("of thirty, number " + i, x.put(2, i, 1), Check.BEYOND);
        }
        check.due("the last of thirty", x.put(2, 29, 1), 0);
        check.due("nothing was put", number(x, 0, 2), 0);
    }

    private static void copy() {
        check.says(27, "n numbers of a sheet from one on come to another one from one on: n.");
        SevenPedals x = new SevenPedals();
        x.sheet(0, 8, 30);
        x.sheet(1, 8, 12);
        for (int i = 0; i < 30; i++) {
            x.put(0, i, 50 + i);
        }
        check.due("none", x.copy(0, 0, 1, 0, 0), 0);
        check.due("none came", number(x, 1, 0), 0);
        check.due("all that fit", x.copy(0, 18, 1, 0, 12), 12);
        check.due("the first", number(x, 1, 0), 68);
        check.due("the last", number(x, 1, 11), 79);
        check.due("one at the end", x.copy(0, 0, 1, 11, 1), 1);
        check.due("it came", number(x, 1, 11), 50);
        check.due("the one ahead of it stays", number(x, 1, 10), 78);
        check.due("thirty onto themselves", x.copy(0, 0, 0, 0, 30), 30);
        check.due("none, at both ends", x.copy(0, 30, 1, 12, 0), 0);
        x.sheet(2, 8, 0);
        check.due("none of none", x.copy(2, 0, 2, 0, 0), 0);
        check.due("none of none", x.copy(2, 0, 1, 12, 0), 0);
        for (int bits = 8; bits <= 32; bits *= 2) {
            x.sheet(2, bits, 1);
            x.sheet(3, bits, 1);
            x.put(2, 0, -1);
            check.due("of " + bits + " bits", x.copy(2, 0, 3, 0, 1), 1);
            check.due("with its sign", number(x, 3, 0), -1);
        }
    }

    private static void copyWithinASheet() {
        check.says(27, "n numbers of a sheet from one on come to another one from one on: n.");
        for (int from = 0; from <= 6; from++) {
            for (int to = 0; to <= 6; to++) {
                SevenPedals x = new SevenPedals();
                x.sheet(0, 16, 12);
                for (int i = 0; i < 12; i++) {
                    x.put(0, i, 10 + i);
                }
                check.due("six", x.copy(0, from, 0, to, 6), 6);
                x.tune(0);
                for (int i = 0; i < 12; i++) {
                    boolean came = i >= to && i < to + 6;
                    int want = came ? 10 + i - to + from : 10 + i;
                    check.due(from + " to " + to + ", number " + i, x.of(i, 0, 1), want);
                }
            }
        }
    }

    private static void copyFindings() {
        check.says(27, "BEYOND: no such sheet (either).");
        SevenPedals x = new SevenPedals();
        x.sheet(0, 8, 5);
        x.sheet(1, 16, 5);
        x.sheet(2, 32, 5);
        for (int s : Given.NO_SHEETS) {
            check.due("from sheet " + s, x.copy(s, 0, 0, 0, 1), Check.BEYOND);
            check.due("to sheet " + s, x.copy(0, 0, s, 0, 1), Check.BEYOND);
            check.due("ahead of MISSING, " + s, x.copy(3, 0, s, 0, 1), Check.BEYOND);
            check.due("ahead of MISSING, " + s, x.copy(s, 0, 3, 0, 1), Check.BEYOND);
        }
        check.says(27, "MISSING: one is.");
        check.due("the first", x.copy(3, 0, 0, 0, 0), Check.MISSING);
        check.due("the other", x.copy(0, 0, 3, 0, 0), Check.MISSING);
        check.due("both", x.copy(3, 0, 3, 0, 0), Check.MISSING);
        check.due("ahead of numbers", x.copy(0, -1, 3, MAX, MIN), Check.MISSING);
        check.says(27, "KIND: they are not of as many bits.");
        for (int s = 0; s < 3; s++) {
            for (int t = 0; t < 3; t++) {
                check.due("none", x.copy(s, 0, t, 0, 0), s == t ? 0 : Check.KIND);
                check.due("ahead of numbers", x.copy(s, -1, t, 0, 0), s == t ? Check.BEYOND : Check.KIND);
                check.due("ahead of numbers", x.copy(s, 0, t, 0, 6), s == t ? Check.BEYOND : Check.KIND);
            }
        }
    }

    private static void copyBeyond() {
        check.says(27, "BEYOND: one has not so many, or from, to or n is below 0.");
        SevenPedals x = new SevenPedals();
        x.sheet(0, 8, 4);
        x.sheet(1, 8, 6);
        int[][] refused = {
            {0, 0, 1, 0, 5}, {1, 0, 0, 0, 5}, {0, 1, 1, 0, 4}, {1, 0, 0, 1, 4}, {0, 4, 1, 0, 1},
            {1, 0, 0, 4, 1}, {0, 5, 1, 0, 0}, {1, 0, 0, 5, 0}, {0, -1, 1, 0, 1}, {0, 0, 1, -1, 1},
            {0, 0, 1, 0, -1}, {0, 2, 1, 2, -1}, {0, -1, 1, -1, 0}, {0, MIN, 1, 0, 0}, {0, 0, 1, MIN, 0},
            {0, 0, 1, 0, MIN}, {0, MAX, 1, 0, 1}, {0, 0, 1, MAX, 1}, {0, 0, 1, 0, MAX}, {0, MAX, 1, MAX, MAX},
            {0, 1, 1, 1, MAX}, {0, MIN, 1, MIN, MIN}, {0, MIN, 1, MIN, MAX}, {0, MAX, 1, MAX, 0},
        };
        for (int[] r : refused) {
            String call = "copy(" + r[0] + ", " + r[1] + ", " + r[2] + ", " + r[3] + ", " + r[4] + ")";
            x.put(0, 3, 7);
            x.put(1, 3, 8);
            check.due(call, x.copy(r[0], r[1], r[2], r[3], r[4]), Check.BEYOND);
            check.due("the first is as it was", number(x, 0, 3), 7);
            check.due("the other, too", number(x, 1, 3), 8);
        }
        check.due("so many it has", x.copy(0, 0, 1, 2, 4), 4);
        check.due("so many it has", x.copy(1, 5, 0, 3, 1), 1);
    }

    private static void tune() {
        check.says(28, "BEATS from 0 on have one NOTE each, plain ones that do not RING, of the PITCHES of a sheet "
            + "(a number below -1: no NOTE); what was there goes; BEATS beyond keep theirs: how many NOTES.");
        SevenPedals x = new SevenPedals();
        for (int b = 0; b < 12; b++) {
            for (int i = 0; i < 6; i++) {
                x.note(b, 3, 90, true);
            }
        }
        x.sheet(0, 8, 0);
        check.due("of none", x.tune(0), 0);
        check.due("all stay", x.all(1), 72);
        x.sheet(0, 8, 5);
        x.put(0, 4, 100);
        check.due("of five", x.tune(0), 5);
        check.due("five and those beyond", x.all(1), 5 + 42);
        for (int b = 0; b < 5; b++) {
            check.due("plain", x.of(b, 0, 0), 0);
            check.due("pitch", x.of(b, 0, 1), b == 4 ? 100 : 0);
            check.due("it does not ring", x.of(b, 0, 2), 0);
            check.due("one note", x.of(b, 1, 0), Check.BEYOND);
        }
        check.due("beyond", x.of(5, 5, 0), 3);
        x.beats(1);
        x.sheet(0, 32, 12);
        check.due("of twelve, though one is played", x.tune(0), 12);
        check.due("twelve", x.all(1), 12);
        check.due("the last", x.of(11, 0, 1), 0);
        check.due("as many are played", x.all(0), 1);
        check.due("room for five more", x.note(11, 0, 1, false), 1);
    }

    private static void tuneNoNote() {
        check.says(28, "(a number below -1: no NOTE)");
        SevenPedals x = new SevenPedals();
        x.note(1, 1, 50, true);
        x.note(2, 1, 50, true);
        x.mark(1, 0, 2);
        x.start(0, 1);
        x.sheet(0, 32, 3);
        x.put(0, 0, -1);
        x.put(0, 1, -2);
        x.put(0, 2, MIN);
        check.due("one of three", x.tune(0), 1);
        check.due("-1 is a pitch", x.of(0, 0, 1), -1);
        check.due("-2 is none, and what was there goes", x.of(1, 0, 1), Check.BEYOND);
        check.due("nor is the least", x.of(2, 0, 1), Check.BEYOND);
        check.due("one in all", x.all(1), 1);
        check.due("marks stay", x.all(2), 1);
        check.due("start stays", x.start(0, -1), 1);
        x.put(0, 0, -2);
        check.due("none of three", x.tune(0), 0);
        check.due("none in all", x.all(1), 0);
    }

    private static void tuneFindings() {
        check.says(28, "BEYOND: no such sheet.");
        SevenPedals x = new SevenPedals();
        x.note(0, 1, 44, true);
        for (int s : Given.NO_SHEETS) {
            check.due("sheet " + s, x.tune(s), Check.BEYOND);
        }
        check.says(28, "MISSING.");
        for (int s = 0; s < 4; s++) {
            check.due("sheet " + s, x.tune(s), Check.MISSING);
        }
        check.says(28, "SIZE: it has more than 12.");
        for (int n : new int[] {13, 14, 30}) {
            x.sheet(0, 16, n);
            check.due(n + " numbers", x.tune(0), Check.SIZE);
            x.put(0, n - 1, 101);
            check.due("SIZE goes ahead of BEYOND", x.tune(0), Check.SIZE);
            x.put(0, 0, 101);
            check.due("SIZE goes ahead of BEYOND", x.tune(0), Check.SIZE);
        }
        check.says(28, "BEYOND: one is above 100.");
        for (int i = 0; i < 12; i++) {
            x.sheet(0, 32, 12);
            x.put(0, i, 101);
            check.due("number " + i, x.tune(0), Check.BEYOND);
            x.put(0, i, MAX);
            check.due("number " + i, x.tune(0), Check.BEYOND);
        }
        check.due("nothing changed", x.all(1), 1);
        check.due("nor the note", x.of(0, 0, 0), 1);
        check.due("one act can be undone", x.undo(), 0);
        x.put(0, 11, 100);
        check.due("100 may be", x.tune(0), 12);
        x.sheet(0, 32, 2);
        x.put(0, 0, -2);
        x.put(0, 1, 101);
        check.due("though the first is no note", x.tune(0), Check.BEYOND);
    }

    private static void undo() {
        check.says(29, "The latest act that changed the part (beats, note, drop, shift, mark, start, tune, "
            + "without a finding) is undone: how many more can be.");
        SevenPedals x = new SevenPedals();
        x.beats(12);
        check.due("beats", x.undo(), 0);
        check.due("eight", x.all(0), 8);
        x.note(0, 1, 40, true);
        check.due("note", x.undo(), 0);
        check.due("no note", x.all(1), 0);
        x.note(0, 3, 40, true);
        x.drop(0);
        check.due("drop", x.undo(), 1);
        check.due("its kind", x.of(0, 0, 0), 3);
        check.due("its pitch", x.of(0, 0, 1), 40);
        check.due("it rings", x.of(0, 0, 2), 1);
        x.shift(-12);
        check.due("shift", x.undo(), 1);
        check.due("its pitch", x.of(0, 0, 1), 40);
        x.mark(0, 0, 2);
        x.mark(0, 0, 1);
        check.due("mark", x.undo(), 2);
        check.due("what was marked", x.mark(0, 0, -1), 2);
        check.due("mark", x.undo(), 2);
        check.due("something is marked", x.without(0, 0), 0);
        check.due("mark", x.undo(), 1);
        check.due("nothing is marked", x.without(0, 0), Check.KIND);
        x.start(6, 2);
        check.due("start", x.undo(), 1);
        check.due("nothing was told", x.start(6, 1), -1);
        x.sheet(0, 8, 12);
        x.tune(0);
        check.due("tune", x.undo(), 2);
        check.due("one note", x.all(1), 1);
        check.due("its kind", x.of(0, 0, 0), 3);
        check.due("start", x.undo(), 1);
        check.due("note", x.undo(), 0);
        check.says(29, "NONE.");
        check.due("undo", x.undo(), Check.NONE);
        check.due("once more", x.undo(), Check.NONE);
        check.due("all is as at first", x.all(0) + x.all(1) + x.all(2), 8);
        x.beats(3);
        check.due("and goes on", x.undo(), 0);
    }

    private static void undoTwenty() {
        check.says(29, "(The latest 20 are kept; also such as changed nothing.)");
        for (int acts = 18; acts <= 62; acts++) {
            SevenPedals x = new SevenPedals();
            for (int i = 0; i < acts; i++) {
                x.mark(i / 7, i % 7, 0);
            }
            int kept = Math.min(acts, 20);
            for (int i = kept - 1; i >= 0; i--) {
                check.due(acts + " acts", x.undo(), i);
                check.due(acts + " acts, marks", x.all(2), acts - kept + i);
            }
            check.due(acts + " acts, no more", x.undo(), Check.NONE);
            check.due(acts + " acts, marks stay", x.all(2), acts - kept);
        }
        SevenPedals x = new SevenPedals();
        x.note(0, 0, 20, false);
        x.sheet(0, 8, 0);
        for (int i = 0; i < 4; i++) {
            x.beats(8);
            x.shift(0);
            x.mark(0, 0, -1);
            x.start(0, -1);
            x.tune(0);
        }
        for (int i = 19; i >= 0; i--) {
            check.due("such as changed nothing", x.undo(), i);
        }
        check.due("the note is not among the twenty", x.undo(), Check.NONE);
        check.due("it stays", x.all(1), 1);
        for (int round = 0; round < 30; round++) {
            x.beats(round % 12 + 1);
            x.beats(12);
            check.due("to and fro", x.undo(), Math.min(round + 1, 20 - 1));
            check.due("played", x.all(0), round % 12 + 1);
        }
    }

    private static void undoKeepsRefusedActsOut() {
        check.says(29, "(beats, note, drop, shift, mark, start, tune, without a finding)");
        SevenPedals x = new SevenPedals();
        x.mark(5, 5, 1);
        x.beats(0);
        x.note(0, 0, 101, true);
        x.drop(0);
        x.shift(13);
        x.mark(0, 0, 3);
        x.start(0, 3);
        x.tune(0);
        x.sheet(0, 8, 13);
        x.put(0, 0, 1);
        x.copy(0, 0, 0, 1, 1);
        x.tune(0);
        x.moves();
        x.without(5, 5);
        check.due("the mark alone", x.undo(), 0);
        check.due("undo is no such act", x.undo(), Check.NONE);
        check.due("sheets are not undone", x.put(0, 12, 1), 0);
    }

    private static void all() {
        check.says(30, "0 BEATS that are played, 1 NOTES of all, 2 MARKS of all, 3 how many acts answered a finding "
            + "ever (this one, too, if it does).");
        SevenPedals x = new SevenPedals();
        for (int b = 0; b < 12; b++) {
            x.beats(b + 1);
            check.due("played", x.all(0), b + 1);
            for (int i = 0; i < 6; i++) {
                x.note(b, 0, i, false);
                check.due("notes", x.all(1), 6 * b + i + 1);
            }
            for (int p = 0; p < 7; p++) {
                x.mark(b, p, p % 3);
                check.due("marks", x.all(2), 7 * b + p + 1);
            }
        }
        x.start(0, 0);
        check.due("start is no mark", x.all(2), 84);
        x.mark(11, 6, 1);
        check.due("marked anew", x.all(2), 84);
        x.mark(11, 6, -1);
        check.due("one gone", x.all(2), 83);
        x.beats(1);
        check.due("of all beats, played or not", x.all(2), 83);
        check.due("of all beats, played or not", x.all(1), 72);
        check.due("no finding", x.all(3), 0);
    }

    private static void allFindings() {
        check.says(30, "BEYOND: another what.");
        SevenPedals x = new SevenPedals();
        int findings = 0;
        for (int what : new int[] {MIN, -1, 4, 5, MAX}) {
            check.due("what " + what, x.all(what), Check.BEYOND);
            findings++;
            check.due("it counts", x.all(3), findings);
            check.due("this does not", x.all(3), findings);
        }
        x.undo();
        check.due("undo's, too", x.all(3), findings + 1);
        x.beats(2);
        x.undo();
        check.due("undo takes none back", x.all(3), findings + 1);
        for (int i = 0; i < 300; i++) {
            x.drop(0);
        }
        check.due("ever", x.all(3), findings + 301);
    }
}
