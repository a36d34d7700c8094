/** Promises 14 to 20: the way. */
public final class WayTest {
    private static final Check check = new Check();

    public static void main(String[] args) {
        moves();
        ringing();
        ringingByTheStringOfTheBeatAhead();
        diagram();
        stand();
        foot();
        ways();
        stuck();
        without();
        afterChanges();
        firstAndLastDiagram();
        oneDiagramAlone();
        check.end();
    }

    private static void moves() {
        SevenPedals x = Given.started(1);
        check.due("14 nothing to move", x.moves(), 0);
        x.mark(0, 0, 2);
        check.due("14 one to beat 0", x.moves(), 1);
        x.mark(0, 5, 0);
        check.due("14 the other foot, too", x.moves(), 2);
        x.mark(0, 2, 0);
        check.due("14 two of the right foot at once", x.moves(), Check.NONE);
        x.undo();
        x.mark(0, 6, 0);
        check.due("14 two of the left foot at once", x.moves(), Check.NONE);
        x.undo();
        x.mark(1, 0, 0);
        check.due("14 from stand 2 to 0 is one move", x.moves(), 3);
        x.mark(3, 6, 0);
        x.mark(3, 1, 0);
        check.due("14 ahead of time, since a foot moves one a beat", x.moves(), 5);
        x.mark(3, 0, 1);
        check.due("14 three pedals in two beats", x.moves(), Check.NONE);
        SevenPedals y = new SevenPedals();
        y.mark(0, 0, 2);
        y.mark(0, 6, 0);
        y.mark(0, 1, 0);
        check.due("14 without a start all stand as is best", y.moves(), 0);
    }

    private static void ringing() {
        SevenPedals x = Given.started(1);
        x.beats(2);
        x.note(0, 0, 26, true);
        x.mark(1, 1, 0);
        check.due("14 a pedal whose string rings", x.moves(), Check.NONE);
        check.due("14 stuck there", x.stuck(), 1);
        x.mark(1, 1, -1);
        x.mark(1, 0, 0);
        check.due("14 another pedal may", x.moves(), 1);
        x.undo();
        x.undo();
        x.beats(3);
        x.mark(1, 1, -1);
        x.mark(2, 1, 0);
        check.due("14 one beat later it may", x.moves(), 1);
        check.due("17 and does", x.foot(2, false), 1);
        check.due("17 not ahead", x.foot(1, false), -1);
        SevenPedals y = Given.started(1);
        y.beats(2);
        y.note(0, 2, 26, true);
        y.mark(1, 1, 0);
        check.due("14 a muted one never rings", y.moves(), 1);
        SevenPedals z = Given.started(1);
        z.beats(2);
        z.note(0, 3, 26 + 19, true);
        z.mark(1, 1, 0);
        check.due("14 a high one rings on its string", z.moves(), Check.NONE);
    }

    /** C natural is on string 14, with B sharp on 13: only the letter of that string is locked. */
    private static void ringingByTheStringOfTheBeatAhead() {
        SevenPedals x = new SevenPedals();
        x.beats(2);
        x.note(0, 0, 24, true);
        x.mark(0, 0, 1);
        x.mark(0, 6, 1);
        x.mark(1, 6, 2);
        check.due("14 B is free while C rings", x.moves(), 1);
        x.mark(0, 6, 2);
        x.mark(1, 6, 1);
        check.due("14 B rings, C does not", x.moves(), Check.NONE);
        x.mark(1, 6, 2);
        x.mark(1, 0, 0);
        check.due("14 C is free while B rings", x.moves(), 1);
    }

    private static void diagram() {
        SevenPedals x = new SevenPedals();
        x.beats(3);
        x.mark(1, 6, 2);
        x.start(6, 0);
        check.due("15 of as few moves the least at the first beat", x.diagram(0), 0);
        check.due("15 then it moves", x.diagram(1), 1458);
        check.due("15 and stays", x.diagram(2), 1458);
        check.due("15 beat 3 is not played", x.diagram(3), Check.BEYOND);
        check.due("15 beat -1", x.diagram(-1), Check.BEYOND);
        check.due("15 beat 12", x.diagram(12), Check.BEYOND);
        x.note(2, 0, 100, false);
        check.due("15 NONE", x.diagram(0), Check.NONE);
        check.due("15 BEYOND ahead of NONE", x.diagram(3), Check.BEYOND);
    }

    private static void stand() {
        SevenPedals x = new SevenPedals();
        for (int p = 0; p < 7; p++) {
            x.mark(0, p, p % 3);
        }
        for (int p = 0; p < 7; p++) {
            check.due("16 stand", x.stand(0, p), p % 3);
            check.due("16 stays", x.stand(7, p), p % 3);
        }
        check.due("16 diagram", x.diagram(7), 0 + 3 + 18 + 0 + 81 + 2 * 243);
        check.due("16 beat 8 is not played", x.stand(8, 0), Check.BEYOND);
        check.due("16 beat -1", x.stand(-1, 0), Check.BEYOND);
        check.due("16 pedal 7", x.stand(0, 7), Check.BEYOND);
        check.due("16 pedal -1", x.stand(0, -1), Check.BEYOND);
        x.note(2, 0, 100, false);
        check.due("16 NONE", x.stand(0, 0), Check.NONE);
        check.due("16 BEYOND ahead of NONE", x.stand(0, 7), Check.BEYOND);
    }

    private static void foot() {
        int[] left = {6, 0, 1};
        int[] right = {2, 3, 4, 5};
        for (int p : left) {
            for (int q : right) {
                SevenPedals x = Given.started(1);
                x.mark(0, p, 0);
                x.mark(0, q, 2);
                x.mark(1, p, 2);
                x.mark(1, q, 0);
                check.due("17 left to beat 0", x.foot(0, false), p);
                check.due("17 right to beat 0", x.foot(0, true), q);
                check.due("17 left to beat 1", x.foot(1, false), p);
                check.due("17 right to beat 1", x.foot(1, true), q);
                check.due("17 none to beat 2", x.foot(2, false), -1);
                check.due("17 none to beat 2", x.foot(2, true), -1);
                check.due("17 -1 is no finding", x.all(3), 0);
            }
        }
        SevenPedals x = new SevenPedals();
        x.mark(0, 0, 2);
        check.due("17 what start does not tell is no move", x.foot(0, false), -1);
        check.due("17 beat 8 is not played", x.foot(8, true), Check.BEYOND);
        check.due("17 beat -1", x.foot(-1, false), Check.BEYOND);
        x.note(2, 0, 100, false);
        check.due("17 NONE", x.foot(0, true), Check.NONE);
        check.due("17 BEYOND ahead of NONE", x.foot(8, true), Check.BEYOND);
    }

    private static void ways() {
        SevenPedals x = new SevenPedals();
        check.due("18 each diagram, unmoved", x.ways(), 2187);
        x.start(0, 1);
        check.due("18 those that start tells", x.ways(), 729);
        x = Given.started(1);
        check.due("18 one", x.ways(), 1);
        x.mark(7, 0, 2);
        check.due("18 the move at any of 8 beats", x.ways(), 8);
        x.mark(7, 2, 2);
        check.due("18 each foot at any of 8", x.ways(), 64);
        x.mark(7, 3, 2);
        check.due("18 two of a foot at two of 8", x.ways(), 8 * 56);
        x.mark(7, 6, 2);
        check.due("18 two of both feet", x.ways(), 56 * 56);
        x.mark(7, 1, 2);
        check.due("18 three of the left foot", x.ways(), 336 * 56);
        x.mark(7, 4, 2);
        check.due("18 three of both", x.ways(), 336 * 336);
        x.mark(7, 5, 2);
        check.due("18 four of the right", x.ways(), 336 * 1680);
        x.beats(9);
        check.due("18 a beat behind adds none", x.ways(), 336 * 1680);
        for (int p = 0; p < 7; p++) {
            x.mark(7, p, -1);
            x.mark(8, p, 2);
        }
        check.due("18 no more than a million", x.ways(), 1000000);
        check.due("18 its moves", x.moves(), 7);
        x.note(0, 0, 100, false);
        check.due("18 NONE", x.ways(), Check.NONE);
        SevenPedals y = new SevenPedals();
        y.beats(12);
        y.mark(0, 0, 0);
        y.mark(11, 0, 1);
        check.due("18 times the free diagrams", y.ways(), 11 * 729);
    }

    private static void stuck() {
        SevenPedals x = new SevenPedals();
        check.due("19 there is a way", x.stuck(), -1);
        x.note(0, 0, 100, false);
        check.due("19 at beat 0", x.stuck(), 0);
        x.drop(0);
        x.note(7, 0, 100, false);
        check.due("19 at the last", x.stuck(), 7);
        x.beats(7);
        check.due("19 that is not played", x.stuck(), -1);
        x = Given.started(1);
        x.mark(0, 6, 0);
        x.mark(0, 0, 0);
        check.due("19 not from start", x.stuck(), 0);
        x.start(0, -1);
        check.due("19 from another start", x.stuck(), -1);
        x.mark(4, 0, 1);
        x.mark(4, 6, 1);
        x.mark(3, 0, 0);
        x.mark(3, 6, 0);
        x.note(6, 0, 100, false);
        check.due("19 the first of two", x.stuck(), 4);
        check.due("19 asked again", x.stuck(), 4);
        x.mark(3, 6, -1);
        check.due("19 then the other", x.stuck(), 6);
        check.due("19 no findings", x.all(3), 0);
    }

    private static void without() {
        SevenPedals x = Given.started(1);
        x.mark(2, 0, 2);
        x.mark(4, 0, 0);
        x.mark(4, 2, 1);
        check.due("20 moves", x.moves(), 2);
        check.due("20 one fewer", x.without(2, 0), 1);
        check.due("20 one fewer", x.without(4, 0), 1);
        check.due("20 as many", x.without(4, 2), 0);
        check.due("20 nothing changed", x.moves(), 2);
        check.due("20 marks stay", x.all(2), 3);
        x.mark(6, 0, 2);
        check.due("20 there and back", x.without(4, 0), 2);
        x.mark(11, 0, 1);
        check.due("20 a mark that is not played", x.without(11, 0), 0);
        check.due("20 KIND", x.without(4, 1), Check.KIND);
        check.due("20 beat 12", x.without(12, 0), Check.BEYOND);
        check.due("20 beat -1", x.without(-1, 0), Check.BEYOND);
        check.due("20 pedal 7", x.without(0, 7), Check.BEYOND);
        check.due("20 pedal -1", x.without(0, -1), Check.BEYOND);
        x.mark(0, 0, 0);
        check.due("20 the first beat's", x.without(0, 0), 1);
        x.mark(7, 0, 1);
        check.due("20 the last beat's", x.without(7, 0), 1);
        x.mark(0, 1, 0);
        check.due("20 NONE", x.without(0, 1), Check.NONE);
        check.due("20 KIND ahead of NONE", x.without(1, 1), Check.KIND);
    }

    /** All pedals at stand 0, then all at stand 2: the ends of every row of diagrams. */
    private static void firstAndLastDiagram() {
        for (int stand = 0; stand <= 2; stand += 2) {
            int diagram = stand == 0 ? 0 : 2186;
            SevenPedals x = Given.started(stand);
            x.beats(4);
            for (int b = 0; b < 4; b++) {
                for (int p = 0; p < 7; p++) {
                    x.mark(b, p, stand);
                }
                // D and A, each on one string alone: a pedal of each foot is locked
                x.note(b, 0, 26 + stand - 1, b < 2);
                x.note(b, 0, 33 + stand - 1, b == 1);
            }
            check.due("14 at rest", x.moves(), 0);
            check.due("18 one way", x.ways(), 1);
            for (int b = 0; b < 4; b++) {
                check.due("15 diagram", x.diagram(b), diagram);
                check.due("20 no move to spare", x.without(b, 1), 0);
            }
            x.note(3, 0, 100, false);
            check.due("19 stuck at the last", x.stuck(), 3);
            x.drop(3);
            x.mark(2, 1, 2 - stand);
            check.due("19 stuck at the locked one", x.stuck(), 2);
        }
    }

    /** At beat 1 one diagram alone does, and none of the others is as dear. */
    private static void oneDiagramAlone() {
        for (int stand = 0; stand <= 2; stand++) {
            SevenPedals x = new SevenPedals();
            x.beats(2);
            x.mark(1, 0, stand);
            for (int p = 1; p < 7; p++) {
                x.mark(1, p, 0);
            }
            x.mark(0, 0, (stand + 1) % 3);
            x.mark(0, 2, 1);
            check.due("13 one does", x.many(1), 1);
            check.due("14 both feet move", x.moves(), 2);
            check.due("15 from here", x.diagram(0), (stand + 1) % 3 + 9);
            check.due("15 to there", x.diagram(1), stand);
            check.due("18 one way", x.ways(), 1);
        }
    }

    /** Answers that are kept inside must go with each change that concerns them. */
    private static void afterChanges() {
        SevenPedals x = Given.started(1);
        check.due("moves", x.moves(), 0);
        x.note(11, 0, 24, false);
        x.beats(12);
        check.due("after beats", x.moves(), 0);
        x.shift(1);
        check.due("after shift of the last beat", x.moves(), 1);
        x.undo();
        x.beats(8);
        x.drop(11);
        check.due("after drop", x.moves(), 0);
        x.note(7, 0, 25, false);
        check.due("after note", x.moves(), 1);
        x.drop(7);
        check.due("after drop", x.moves(), 0);
        x.note(7, 0, 24, false);
        check.due("after note", x.moves(), 0);
        x.shift(1);
        check.due("after shift", x.moves(), 1);
        x.undo();
        check.due("after undo", x.moves(), 0);
        x.mark(3, 3, 0);
        check.due("after mark", x.moves(), 1);
        x.start(3, 0);
        check.due("after start", x.moves(), 0);
        x.sheet(0, 8, 2);
        x.put(0, 1, 1);
        x.tune(0);
        check.due("after tune", x.moves(), 1);
        x.note(9, 0, 100, false);
        check.due("after a note that is not played", x.moves(), 1);
        x.beats(10);
        check.due("after beats", x.moves(), Check.NONE);
        check.due("after beats", x.stuck(), 9);
        x.beats(9);
        check.due("after beats", x.stuck(), -1);
        check.due("after beats", x.moves(), 1);
    }
}
