/** Promises 29 and 30: undo, all. */
public final class WholeTest {
    private static final Check check = new Check();

    public static void main(String[] args) {
        undoEach();
        undoKeepsTwenty();
        undoOnlyActsOnThePart();
        all();
        check.end();
    }

    private static void undoEach() {
        SevenPedals x = new SevenPedals();
        x.beats(5);
        x.note(0, 1, 40, true);
        x.shift(3);
        x.mark(2, 3, 1);
        x.start(4, 2);
        x.sheet(0, 8, 1);
        x.tune(0);
        x.drop(0);
        check.due("29 drop", x.undo(), 6);
        check.due("29 the note is back", x.of(0, 0, 0), 0);
        check.due("29 tune", x.undo(), 5);
        check.due("29 what was there is back", x.of(0, 0, 0), 1);
        check.due("29 its pitch", x.of(0, 0, 1), 43);
        check.due("29 it rings", x.of(0, 0, 2), 1);
        check.due("29 start", x.undo(), 4);
        check.due("29 mark", x.undo(), 3);
        check.due("29 no mark", x.all(2), 0);
        check.due("29 shift", x.undo(), 2);
        check.due("29 its pitch", x.of(0, 0, 1), 40);
        check.due("29 note", x.undo(), 1);
        check.due("29 no note", x.all(1), 0);
        check.due("29 beats", x.undo(), 0);
        check.due("29 eight again", x.all(0), 8);
        check.due("29 NONE", x.undo(), Check.NONE);
        check.due("29 no start was left", x.start(4, -1), -1);
    }

    private static void undoKeepsTwenty() {
        SevenPedals x = new SevenPedals();
        for (int i = 0; i < 25; i++) {
            x.mark(i / 7, i % 7, 0);
        }
        for (int i = 19; i >= 0; i--) {
            check.due("29 undo", x.undo(), i);
        }
        check.due("29 only twenty", x.undo(), Check.NONE);
        check.due("29 the earliest five stay", x.all(2), 5);
        x.mark(11, 6, 2);
        check.due("29 again from there", x.undo(), 0);
        check.due("29 five", x.all(2), 5);
        for (int i = 0; i < 20; i++) {
            x.mark(0, 0, 0);
        }
        check.due("29 such as changed nothing", x.undo(), 19);
        check.due("29 five", x.all(2), 5);
    }

    private static void undoOnlyActsOnThePart() {
        SevenPedals x = new SevenPedals();
        x.sheet(0, 8, 1);
        x.put(0, 0, 50);
        x.copy(0, 0, 0, 0, 1);
        x.beats(0);
        x.note(0, 0, 101, true);
        x.drop(0);
        x.shift(13);
        x.mark(0, 0, 3);
        x.start(0, 3);
        x.tune(1);
        x.moves();
        x.many(0);
        check.due("29 nothing to undo", x.undo(), Check.NONE);
        x.tune(0);
        check.due("29 the tune", x.undo(), 0);
        check.due("29 sheets stay", x.tune(0), 1);
        check.due("29 and their numbers", x.of(0, 0, 1), 50);
    }

    private static void all() {
        SevenPedals x = new SevenPedals();
        x.beats(3);
        x.note(0, 0, 1, false);
        x.note(11, 0, 1, false);
        x.mark(0, 0, 0);
        x.mark(11, 6, 2);
        x.mark(5, 5, 1);
        x.mark(5, 5, -1);
        x.start(0, 0);
        check.due("30 beats", x.all(0), 3);
        check.due("30 notes of all beats", x.all(1), 2);
        check.due("30 marks of all beats", x.all(2), 2);
        check.due("30 no findings", x.all(3), 0);
        x.of(0, 5, 0);
        x.sheet(9, 9, 9);
        check.due("30 two findings", x.all(3), 2);
        check.due("30 what 4", x.all(4), Check.BEYOND);
        check.due("30 what -1", x.all(-1), Check.BEYOND);
        check.due("30 four findings", x.all(3), 4);
        x.undo();
        check.due("30 undo brings no finding back", x.all(3), 4);
    }
}
