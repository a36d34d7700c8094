/** Promises 1 to 9: the part. */
public final class PartTest {
    private static final Check check = new Check();

    public static void main(String[] args) {
        newObject();
        beats();
        note();
        drop();
        as();
        of();
        shift();
        mark();
        start();
        check.end();
    }

    private static void newObject() {
        SevenPedals x = new SevenPedals();
        check.due("1 all(0)", x.all(0), 8);
        check.due("1 all(1)", x.all(1), 0);
        check.due("1 all(2)", x.all(2), 0);
        check.due("1 all(3)", x.all(3), 0);
        check.due("1 moves", x.moves(), 0);
        check.due("1 diagram", x.diagram(7), 0);
        for (int s = 0; s < 4; s++) {
            check.due("1 sheet missing", x.put(s, 0, 0), Check.MISSING);
        }
        check.due("1 undo", x.undo(), Check.NONE);
        for (int p = 0; p < 7; p++) {
            check.due("1 no start", x.start(p, -1), -1);
            check.due("1 no mark", x.mark(11, p, -1), -1);
        }
    }

    private static void beats() {
        SevenPedals x = new SevenPedals();
        check.due("2 beats(12)", x.beats(12), 8);
        check.due("2 beats(1)", x.beats(1), 12);
        check.due("2 beats(0)", x.beats(0), Check.BEYOND);
        check.due("2 beats(13)", x.beats(13), Check.BEYOND);
        check.due("2 beats(-1)", x.beats(-1), Check.BEYOND);
        check.due("2 beats(min)", x.beats(Integer.MIN_VALUE), Check.BEYOND);
        check.due("2 a finding changes nothing", x.all(0), 1);
        check.due("2 note of another beat", x.note(11, 0, 100, false), 0);
        check.due("2 it is not played", x.moves(), 0);
        check.due("2 beats(12)", x.beats(12), 1);
        check.due("2 the note stayed", x.of(11, 0, 1), 100);
        check.due("2 now it is played", x.moves(), Check.NONE);
        check.due("2 beats(11)", x.beats(11), 12);
        check.due("2 not played again", x.moves(), 0);
    }

    private static void note() {
        SevenPedals x = new SevenPedals();
        for (int i = 0; i < 6; i++) {
            check.due("3 number", x.note(11, i % 4, i, true), i);
        }
        check.due("3 FULL", x.note(11, 0, 0, true), Check.FULL);
        check.due("3 BEYOND ahead of FULL", x.note(11, 4, 0, true), Check.BEYOND);
        check.due("3 BEYOND ahead of FULL", x.note(11, 0, 101, true), Check.BEYOND);
        check.due("3 pitch -1", x.note(0, 0, -1, false), 0);
        check.due("3 pitch 100", x.note(0, 0, 100, false), 1);
        check.due("3 pitch -2", x.note(0, 0, -2, false), Check.BEYOND);
        check.due("3 pitch 101", x.note(0, 0, 101, false), Check.BEYOND);
        check.due("3 kind -1", x.note(0, -1, 0, false), Check.BEYOND);
        check.due("3 kind 4", x.note(0, 4, 0, false), Check.BEYOND);
        check.due("3 beat -1", x.note(-1, 0, 0, false), Check.BEYOND);
        check.due("3 beat 12", x.note(12, 0, 0, false), Check.BEYOND);
        check.due("3 a finding adds nothing", x.all(1), 8);
    }

    private static void drop() {
        SevenPedals x = new SevenPedals();
        x.note(3, 0, 10, false);
        x.note(3, 1, 20, true);
        check.due("4 drop", x.drop(3), 1);
        check.due("4 the latest went", x.of(3, 0, 1), 10);
        check.due("4 no note 1", x.of(3, 1, 1), Check.BEYOND);
        check.due("4 drop", x.drop(3), 0);
        check.due("4 NONE", x.drop(3), Check.NONE);
        check.due("4 BEYOND", x.drop(-1), Check.BEYOND);
        check.due("4 BEYOND", x.drop(12), Check.BEYOND);
        check.due("4 a new one is plain", x.note(3, 0, 30, false), 0);
        check.due("4 kind", x.of(3, 0, 0), 0);
        check.due("4 rings", x.of(3, 0, 2), 0);
    }

    private static void as() {
        int[][] can = {
            {1, 0, 0, 0},
            {1, 1, 0, 0},
            {1, 0, 1, 0},
            {1, 1, 0, 1},
        };
        SevenPedals x = new SevenPedals();
        for (int kind = 0; kind < 4; kind++) {
            x.note(5, kind, 50 + kind, false);
        }
        for (int kind = 0; kind < 4; kind++) {
            for (int seen = 0; seen < 4; seen++) {
                int want = can[kind][seen] == 1 ? 50 + kind : Check.KIND;
                check.due("5 as(5, " + kind + ", " + seen + ")", x.as(5, kind, seen), want);
            }
        }
        check.due("5 kind 4", x.as(5, 0, 4), Check.BEYOND);
        check.due("5 kind -1", x.as(5, 0, -1), Check.BEYOND);
        check.due("5 note 4", x.as(5, 4, 0), Check.BEYOND);
        check.due("5 note -1", x.as(5, -1, 0), Check.BEYOND);
        check.due("5 beat 12", x.as(12, 0, 0), Check.BEYOND);
        check.due("5 beat -1", x.as(-1, 0, 0), Check.BEYOND);
        x.note(0, 0, -1, false);
        check.due("5 pitch -1 is no finding", x.as(0, 0, 0), -1);
        check.due("5 findings so far", x.all(3), 8 + 6);
    }

    private static void of() {
        SevenPedals x = new SevenPedals();
        for (int kind = 0; kind < 4; kind++) {
            x.note(0, kind, 60 + kind, true);
        }
        for (int kind = 0; kind < 4; kind++) {
            check.due("6 kind", x.of(0, kind, 0), kind);
            check.due("6 pitch", x.of(0, kind, 1), 60 + kind);
            check.due("6 rings", x.of(0, kind, 2), kind == 2 ? 0 : 1);
        }
        x.note(1, 3, 0, false);
        check.due("6 rings not", x.of(1, 0, 2), 0);
        check.due("6 what 3", x.of(0, 0, 3), Check.BEYOND);
        check.due("6 what -1", x.of(0, 0, -1), Check.BEYOND);
        check.due("6 note 4", x.of(0, 4, 0), Check.BEYOND);
        check.due("6 note -1", x.of(0, -1, 0), Check.BEYOND);
        check.due("6 beat 12", x.of(12, 0, 0), Check.BEYOND);
        check.due("6 beat -1", x.of(-1, 0, 0), Check.BEYOND);
    }

    private static void shift() {
        SevenPedals x = new SevenPedals();
        check.due("7 nothing to shift", x.shift(12), 0);
        x.note(0, 0, 11, false);
        x.note(11, 3, 88, true);
        check.due("7 shift(13)", x.shift(13), Check.BEYOND);
        check.due("7 shift(-13)", x.shift(-13), Check.BEYOND);
        check.due("7 shift(12)", x.shift(12), 2);
        check.due("7 higher", x.of(0, 0, 1), 23);
        check.due("7 higher, not played", x.of(11, 0, 1), 100);
        check.due("7 SIZE", x.shift(1), Check.SIZE);
        check.due("7 a finding shifts none", x.of(0, 0, 1), 23);
        check.due("7 shift(0)", x.shift(0), 2);
        check.due("7 shift(-12)", x.shift(-12), 2);
        check.due("7 shift(-12)", x.shift(-12), 2);
        check.due("7 down to -1", x.of(0, 0, 1), -1);
        check.due("7 SIZE", x.shift(-1), Check.SIZE);
        check.due("7 kinds stay", x.of(11, 0, 0), 3);
        check.due("7 rings stay", x.of(11, 0, 2), 1);
        for (int i = 0; i < 5; i++) {
            x.note(11, 0, 90, false);
        }
        check.due("7 a full beat", x.shift(10), 7);
        check.due("7 its last note", x.of(11, 5, 1), 100);
        x.undo();
        for (int i = 0; i < 5; i++) {
            x.drop(11);
        }
        x.drop(0);
        check.due("7 notes that went do not hinder", x.shift(-12), 1);
    }

    private static void mark() {
        SevenPedals x = new SevenPedals();
        check.due("8 mark", x.mark(2, 6, 2), -1);
        check.due("8 mark again", x.mark(2, 6, 0), 2);
        check.due("8 unmark", x.mark(2, 6, -1), 0);
        check.due("8 unmark", x.mark(2, 6, -1), -1);
        check.due("8 -1 is no finding", x.all(3), 0);
        check.due("8 beat 11", x.mark(11, 0, 1), -1);
        check.due("8 beat 12", x.mark(12, 0, 1), Check.BEYOND);
        check.due("8 beat -1", x.mark(-1, 0, 1), Check.BEYOND);
        check.due("8 pedal 7", x.mark(0, 7, 1), Check.BEYOND);
        check.due("8 pedal -1", x.mark(0, -1, 1), Check.BEYOND);
        check.due("8 stand 3", x.mark(0, 0, 3), Check.BEYOND);
        check.due("8 stand -2", x.mark(0, 0, -2), Check.BEYOND);
        check.due("8 one mark", x.all(2), 1);
        check.due("8 does as marked", x.does(11, 1), 1);
        check.due("8 does not", x.does(11, 0), 0);
    }

    private static void start() {
        SevenPedals x = new SevenPedals();
        check.due("9 start", x.start(3, 1), -1);
        check.due("9 start again", x.start(3, 2), 1);
        check.due("9 the way starts so", x.stand(0, 3), 2);
        check.due("9 start none", x.start(3, -1), 2);
        check.due("9 start none", x.start(3, -1), -1);
        check.due("9 -1 is no finding", x.all(3), 0);
        check.due("9 pedal 7", x.start(7, 0), Check.BEYOND);
        check.due("9 pedal -1", x.start(-1, 0), Check.BEYOND);
        check.due("9 stand 3", x.start(0, 3), Check.BEYOND);
        check.due("9 stand -2", x.start(0, -2), Check.BEYOND);
    }
}
