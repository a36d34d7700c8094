/** Promises 10 to 22: each sentence that names an edge. 1093 has every pedal at stand 1. */
public final class EdgeWayTest {
    private static final Check check = new Check();
    private static final int MIN = Integer.MIN_VALUE;
    private static final int MAX = Integer.MAX_VALUE;
    private static final int[] LEFT = {6, 0, 1};
    private static final int[] RIGHT = {2, 3, 4, 5};

    public static void main(String[] args) {
        pitch();
        string();
        stringFindings();
        does();
        many();
        moves();
        diagram();
        stand();
        foot();
        waysUpToAMillion();
        waysBeyondAMillion();
        ways();
        stuck();
        without();
        withoutFindings();
        withoutNone();
        bothFeetLocked();
        bothFeetLockedAndMore();
        nothingStale();
        split();
        splitFindings();
        hard();
        hardNone();
        check.end();
    }

    private static void pitch() {
        check.says(10, "PITCH of a STRING by a DIAGRAM.");
        SevenPedals x = new SevenPedals();
        check.due("the lowest of all is no finding", x.pitch(0, 0), -1);
        check.due("the highest of all", x.pitch(41, 2186), 72);
        check.due("string 6 by the topmost pedal alone", x.pitch(6, 1458), 12);
        check.due("string 7 by it", x.pitch(7, 1458), 11);
        check.due("no finding", x.all(3), 0);
        check.says(10, "BEYOND: no such STRING, or DIAGRAM (0 to 2186).");
        for (int string : Given.NO_STRINGS) {
            check.due("string " + string, x.pitch(string, 0), Check.BEYOND);
        }
        for (int diagram : Given.NO_DIAGRAMS) {
            check.due("diagram " + diagram, x.pitch(0, diagram), Check.BEYOND);
        }
        check.due("both", x.pitch(42, 2187), Check.BEYOND);
    }

    private static void string() {
        check.says(11, "The STRING on which a NOTE is by a DIAGRAM.");
        SevenPedals x = new SevenPedals();
        x.note(11, 0, -1, false);
        check.due("the lowest", x.string(11, 0, 0), 0);
        x.note(11, 0, 72, false);
        check.due("the topmost", x.string(11, 1, 2186), 41);
        x.note(11, 0, 72, false);
        check.due("though another is on it", x.string(11, 2, 2186), 41);
        x.mark(11, 6, 0);
        check.due("though a mark is not kept", x.string(11, 2, 2186), 41);
        check.due("no finding", x.all(3), 0);
    }

    private static void stringFindings() {
        check.says(11, "BEYOND: no such BEAT, NOTE, or DIAGRAM.");
        SevenPedals x = new SevenPedals();
        check.due("an empty beat", x.string(0, 0, 0), Check.BEYOND);
        x.note(0, 0, Given.TOO_HIGH, false);
        for (int beat : Given.NO_BEATS) {
            check.due("beat " + beat, x.string(beat, 0, 0), Check.BEYOND);
        }
        for (int note : new int[] {MIN, -1, 1, 6, MAX}) {
            check.due("note " + note, x.string(0, note, 0), Check.BEYOND);
        }
        for (int diagram : Given.NO_DIAGRAMS) {
            check.due("BEYOND goes ahead of NONE, diagram " + diagram, x.string(0, 0, diagram), Check.BEYOND);
        }
        check.says(11, "NONE: it is not PLAYABLE.");
        for (int diagram : new int[] {0, 1093, 2186}) {
            check.due("diagram " + diagram, x.string(0, 0, diagram), Check.NONE);
        }
        x.note(0, 1, 10, false);
        check.due("a harmonic too low", x.string(0, 1, 0), Check.NONE);
        x.note(0, 3, 92, false);
        check.due("a high one too high", x.string(0, 2, 2186), Check.NONE);
        x.note(0, 0, 26, false);
        check.due("D by D flat", x.string(0, 3, 1093 - 3), Check.NONE);
        check.due("D by D", x.string(0, 3, 1093), 15);
        check.due("D by D sharp", x.string(0, 3, 1093 + 3), Check.NONE);
    }

    private static void does() {
        check.says(12, "Whether a DIAGRAM DOES for a BEAT: 1, 0.");
        SevenPedals x = new SevenPedals();
        check.due("an empty beat, the first diagram", x.does(11, 0), 1);
        check.due("an empty beat, the last diagram", x.does(11, 2186), 1);
        x.note(11, 0, 72, false);
        check.due("the last diagram", x.does(11, 2186), 1);
        check.due("the first diagram", x.does(11, 0), 0);
        check.due("0 is no finding", x.all(3), 0);
        check.says(12, "BEYOND.");
        for (int beat : Given.NO_BEATS) {
            check.due("beat " + beat, x.does(beat, 0), Check.BEYOND);
        }
        for (int diagram : Given.NO_DIAGRAMS) {
            check.due("diagram " + diagram, x.does(0, diagram), Check.BEYOND);
        }
    }

    private static void many() {
        check.says(13, "How many DIAGRAMS DO for a BEAT.");
        SevenPedals x = new SevenPedals();
        check.due("all", x.many(0), 2187);
        int count = 2187;
        for (int p = 0; p < 7; p++) {
            x.mark(0, p, 2);
            count /= 3;
            check.due("a third of them", x.many(0), count);
        }
        x.note(0, 0, 72, false);
        check.due("one", x.many(0), 1);
        x.note(0, 0, 71, false);
        check.due("none", x.many(0), 0);
        check.due("0 is no finding", x.all(3), 0);
        check.says(13, "BEYOND.");
        for (int beat : Given.NO_BEATS) {
            check.due("beat " + beat, x.many(beat), Check.BEYOND);
        }
    }

    private static void moves() {
        check.says(14, "MOVES of THE WAY.");
        SevenPedals x = Given.started(1);
        check.due("none", x.moves(), 0);
        x.beats(12);
        for (int b = 0; b < 12; b++) {
            x.mark(b, LEFT[b % 3], b / 3 % 2 * 2);
            x.mark(b, RIGHT[b % 3], b / 3 % 2 * 2);
        }
        check.due("both feet at each of twelve beats", x.moves(), 24);
        x.beats(1);
        check.due("both feet at one beat", x.moves(), 2);
        check.due("0 and others are no findings", x.all(3), 0);
        check.says(14, "NONE: there is none.");
        x.note(1, 0, Given.TOO_HIGH, false);
        check.due("a beat that is not played", x.moves(), 2);
        x.beats(2);
        check.due("now it is", x.moves(), Check.NONE);
        check.due("asked again", x.moves(), Check.NONE);
        check.due("each a finding", x.all(3), 2);
        x.drop(1);
        check.due("dropped", x.moves(), 4);
    }

    private static void diagram() {
        check.says(15, "BEYOND: it is not played.");
        SevenPedals x = new SevenPedals();
        for (int n = 1; n <= 12; n++) {
            x.beats(n);
            check.due("the last of " + n, x.diagram(n - 1), 0);
            check.due("behind the last of " + n, x.diagram(n), Check.BEYOND);
        }
        for (int beat : Given.NO_BEATS) {
            check.due("beat " + beat, x.diagram(beat), Check.BEYOND);
        }
        check.says(15, "NONE.");
        x.beats(2);
        x.note(1, 0, Given.TOO_HIGH, false);
        check.due("beat 0, though it could be played alone", x.diagram(0), Check.NONE);
        check.due("beat 1", x.diagram(1), Check.NONE);
        check.due("BEYOND goes first", x.diagram(2), Check.BEYOND);
        check.due("BEYOND goes first", x.diagram(-1), Check.BEYOND);
        x.beats(1);
        check.due("it is not played: there is a way", x.diagram(0), 0);
        check.says(15, "The DIAGRAM of THE WAY at a BEAT.");
        SevenPedals y = Given.started(2);
        check.due("the last of all", y.diagram(0), 2186);
        check.due("to the end", y.diagram(7), 2186);
    }

    private static void stand() {
        check.says(16, "The STAND of a PEDAL of THE WAY at a BEAT.");
        for (int stand = 0; stand < 3; stand++) {
            SevenPedals x = Given.started(stand);
            for (int p = 0; p < 7; p++) {
                check.due("pedal " + p, x.stand(0, p), stand);
                check.due("pedal " + p + " at the last", x.stand(7, p), stand);
            }
        }
        check.says(16, "BEYOND.");
        SevenPedals x = new SevenPedals();
        for (int beat : Given.NO_BEATS) {
            check.due("beat " + beat, x.stand(beat, 0), Check.BEYOND);
        }
        for (int pedal : Given.NO_PEDALS) {
            check.due("pedal " + pedal, x.stand(0, pedal), Check.BEYOND);
        }
        check.due("beat 8 is not played", x.stand(8, 0), Check.BEYOND);
        check.due("beat 11 is not played", x.stand(11, 6), Check.BEYOND);
        x.beats(12);
        check.due("now it is", x.stand(11, 6), 0);
        check.says(16, "NONE.");
        x.note(11, 0, Given.TOO_HIGH, false);
        check.due("no way", x.stand(0, 0), Check.NONE);
        check.due("BEYOND goes first, pedal", x.stand(0, 7), Check.BEYOND);
        check.due("BEYOND goes first, beat", x.stand(12, 0), Check.BEYOND);
    }

    private static void foot() {
        check.says(17, "The PEDAL that a FOOT (right: the RIGHT one) moves in THE WAY to come to a BEAT; "
            + "-1 (no finding): none.");
        for (int p = 0; p < 7; p++) {
            boolean right = p > 1 && p < 6;
            SevenPedals x = Given.started(0);
            x.mark(0, p, 2);
            x.mark(1, p, 1);
            check.due("to beat 0, pedal " + p, x.foot(0, right), p);
            check.due("the other foot", x.foot(0, !right), -1);
            check.due("to beat 1, pedal " + p, x.foot(1, right), p);
            check.due("the other foot", x.foot(1, !right), -1);
            check.due("to the last", x.foot(7, right), -1);
            x.mark(1, p, -1);
            check.due("it stays as it was moved", x.foot(1, right), -1);
            check.due("no finding", x.all(3), 0);
            x.start(p, -1);
            check.due("start does not tell pedal " + p, x.foot(0, right), -1);
            check.due("it stands so all the same", x.stand(0, p), 2);
        }
        check.says(17, "BEYOND.");
        SevenPedals x = new SevenPedals();
        for (int beat : new int[] {MIN, -1, 8, 11, 12, MAX}) {
            check.due("beat " + beat, x.foot(beat, false), Check.BEYOND);
            check.due("beat " + beat, x.foot(beat, true), Check.BEYOND);
        }
        x.beats(12);
        check.due("beat 11", x.foot(11, true), -1);
        check.says(17, "NONE.");
        x.note(0, 0, Given.TOO_HIGH, false);
        check.due("no way, left", x.foot(0, false), Check.NONE);
        check.due("no way, right", x.foot(11, true), Check.NONE);
        check.due("BEYOND goes first", x.foot(12, true), Check.BEYOND);
    }

    /** Each pedal moves once from slot on, pedal i within its window; all hold still till then. */
    private static int windows(SevenPedals x, int[] pedals, int slot, int stand, int... windows) {
        int longest = 0;
        for (int i = 0; i < windows.length; i++) {
            if (slot > 0) {
                x.mark(slot - 1, pedals[i], stand - 1);
            }
            x.mark(slot + windows[i] - 1, pedals[i], stand);
            longest = Math.max(longest, windows[i]);
        }
        return slot + longest;
    }

    private static void waysUpToAMillion() {
        check.says(18, "How many WAYS have as few MOVES; 1000000 if there are more.");
        SevenPedals x = Given.started(0);
        x.beats(12);
        int slot = windows(x, LEFT, 0, 1, 2, 3, 3);
        check.due("windows of 2, 3 and 3", x.ways(), 2 * 2 * 1);
        windows(x, LEFT, slot, 2, 2, 3, 9);
        check.due("and of 2, 3 and 9", x.ways(), 4 * 2 * 2 * 7);
        windows(x, RIGHT, 0, 1, 11, 11, 11, 12);
        check.due("below a million", x.ways(), 997920);
        check.due("its moves", x.moves(), 10);
        SevenPedals y = Given.started(0);
        y.beats(12);
        windows(y, LEFT, 0, 1, 5, 6, 7);
        check.due("windows of 5, 6 and 7", y.ways(), 125);
        slot = windows(y, RIGHT, 0, 1, 2, 3, 4, 5);
        check.due("and of 2, 3, 4 and 5", y.ways(), 2000);
        windows(y, RIGHT, slot, 2, 5, 6, 7, 7);
        check.due("a million", y.ways(), 1000000);
        check.due("its moves", y.moves(), 11);
    }

    private static void waysBeyondAMillion() {
        check.says(18, "1000000 if there are more.");
        SevenPedals x = Given.started(0);
        x.beats(12);
        int slot = windows(x, LEFT, 0, 1, 2, 3, 3);
        windows(x, LEFT, slot, 2, 1, 8, 9);
        check.due("196", x.ways(), 4 * 1 * 7 * 7);
        windows(x, RIGHT, 0, 1, 7, 10, 11, 12);
        check.due("1000188", x.ways(), 1000000);
        SevenPedals y = Given.started(0);
        y.beats(12);
        for (int p = 0; p < 7; p++) {
            y.mark(11, p, 1);
        }
        check.due("1320 times 11880", y.ways(), 1000000);
        y.mark(11, 6, -1);
        y.start(6, -1);
        check.due("132 times 11880, three times", y.ways(), 1000000);
        y.beats(11);
        check.due("none is marked", y.ways(), 3);
    }

    private static void ways() {
        check.says(18, "NONE.");
        SevenPedals x = new SevenPedals();
        x.note(0, 0, Given.TOO_HIGH, false);
        check.due("no way", x.ways(), Check.NONE);
        x.drop(0);
        check.due("all diagrams", x.ways(), 2187);
        check.says(18, "How many WAYS have as few MOVES");
        for (int p = 0; p < 7; p++) {
            x.start(p, 1);
        }
        check.due("one", x.ways(), 1);
        x.beats(1);
        x.note(0, 0, 25, false);
        check.due("C sharp or D flat", x.ways(), 2);
        x.start(0, 2);
        check.due("C sharp alone has the fewest", x.ways(), 1);
    }

    private static void stuck() {
        check.says(19, "STUCK; -1 (no finding): there is a WAY.");
        SevenPedals x = new SevenPedals();
        check.due("there is", x.stuck(), -1);
        x.beats(1);
        x.note(0, 0, Given.TOO_HIGH, false);
        check.due("0, the only beat", x.stuck(), 0);
        x.drop(0);
        x.beats(12);
        x.note(11, 0, Given.TOO_HIGH, false);
        check.due("11, the last of all", x.stuck(), 11);
        x.beats(11);
        check.due("it is not played", x.stuck(), -1);
        check.due("no finding in it", x.all(3), 0);
    }

    private static void without() {
        check.says(20, "How many MOVES fewer THE WAY would take if a MARK were gone.");
        for (int stand = 0; stand < 3; stand++) {
            SevenPedals x = Given.started(stand);
            x.mark(3, 6, stand);
            check.due("as it stands", x.without(3, 6), 0);
            x.mark(3, 6, (stand + 1) % 3);
            check.due("one move", x.without(3, 6), 1);
            x.mark(5, 6, stand);
            check.due("there and back", x.without(3, 6), 2);
            check.due("back", x.without(5, 6), 1);
            check.due("the marks stay", x.all(2), 2);
            check.due("the moves, too", x.moves(), 2);
        }
        SevenPedals x = Given.started(0);
        x.beats(12);
        x.mark(0, 0, 1);
        x.mark(11, 3, 1);
        check.due("at the first", x.without(0, 0), 1);
        check.due("at the last", x.without(11, 3), 1);
        x.mark(10, 3, 1);
        check.due("another asks the same", x.without(11, 3), 0);
        x.beats(11);
        check.due("a mark at a beat that is not played", x.without(11, 3), 0);
        check.due("one that is", x.without(10, 3), 1);
        x.mark(11, 4, 2);
        x.note(11, 0, Given.TOO_HIGH, false);
        check.due("whatever else is there", x.without(11, 3), 0);
        x.beats(1);
        check.due("at the only one", x.without(0, 0), 1);
        check.due("no finding", x.all(3), 0);
    }

    private static void withoutFindings() {
        check.says(20, "BEYOND: no such BEAT, or PEDAL.");
        SevenPedals x = new SevenPedals();
        x.note(0, 0, Given.TOO_HIGH, false);
        for (int beat : Given.NO_BEATS) {
            check.due("beat " + beat, x.without(beat, 0), Check.BEYOND);
        }
        for (int pedal : Given.NO_PEDALS) {
            check.due("pedal " + pedal, x.without(0, pedal), Check.BEYOND);
            check.due("pedal " + pedal + " of the last beat", x.without(11, pedal), Check.BEYOND);
        }
        check.says(20, "KIND: nothing is marked there.");
        check.due("KIND goes ahead of NONE", x.without(0, 0), Check.KIND);
        x.drop(0);
        check.due("nothing", x.without(0, 0), Check.KIND);
        x.mark(1, 0, 0);
        x.mark(0, 1, 0);
        check.due("marks beside it", x.without(0, 0), Check.KIND);
        x.mark(0, 0, 0);
        check.due("stand 0 is a mark", x.without(0, 0), 0);
        x.mark(0, 0, -1);
        check.due("gone again", x.without(0, 0), Check.KIND);
        check.due("a beat that is not played", x.without(11, 6), Check.KIND);
    }

    private static void withoutNone() {
        check.says(20, "NONE: there is no WAY (now).");
        SevenPedals x = Given.started(0);
        x.mark(0, 0, 1);
        x.mark(0, 1, 1);
        check.due("though there were one without it", x.without(0, 1), Check.NONE);
        x.mark(11, 0, 1);
        check.due("nor for a beat that is not played", x.without(11, 0), Check.NONE);
        x.mark(0, 0, -1);
        check.due("there is one now", x.without(0, 1), 1);
        check.due("there is one now", x.without(11, 0), 0);
    }

    /** D and A ring at beats 0 and 1, each on one string alone: a pedal of each foot is locked. */
    private static SevenPedals locked() {
        SevenPedals x = Given.started(1);
        x.beats(4);
        for (int b = 0; b < 2; b++) {
            x.note(b, 0, 26, true);
            x.note(b, 0, 33, true);
        }
        return x;
    }

    private static void bothFeetLocked() {
        check.says(14, "MOVES of THE WAY.");
        for (int p = 0; p < 7; p++) {
            for (int q = p; q < 7; q++) {
                SevenPedals x = locked();
                x.mark(2, p, 2);
                x.mark(2, q, 0);
                x.mark(3, 3, 2);
                boolean rings = p == 1 || p == 5 || q == 1 || q == 5;
                // pedal 3 has a move of its own at beat 3, but where p stands so already
                int moves = (p == q ? 1 : 2) + (p == 3 && q != 3 ? 0 : 1);
                int movesWithout = p == q || p == 3 ? 1 : 2;
                String both = p + " and " + q;
                check.due(both, x.moves(), rings ? Check.NONE : moves);
                check.due(both + " stuck", x.stuck(), rings ? 2 : -1);
                check.due(both + " without", x.without(2, q), rings ? Check.NONE : moves - movesWithout);
            }
        }
    }

    private static void bothFeetLockedAndMore() {
        check.says(18, "How many WAYS have as few MOVES");
        SevenPedals x = locked();
        x.mark(2, 0, 2);
        check.due("the left foot at beats 0 to 2", x.ways(), 3);
        x.mark(2, 3, 2);
        check.due("the right foot, too", x.ways(), 9);
        x.mark(1, 3, 1);
        check.due("but not ahead of beat 2", x.ways(), 3);
        x.mark(3, 1, 0);
        check.due("D at beat 3, when it rings no more", x.ways(), 3);
        check.due("its moves", x.moves(), 3);
        x.mark(3, 5, 2);
        check.due("A as well", x.moves(), 4);
        check.due("at beat 3", x.foot(3, false), 1);
        check.due("at beat 3", x.foot(3, true), 5);
        check.due("D's mark", x.without(3, 1), 1);
        check.due("A's mark", x.without(3, 5), 1);
        x.note(2, 0, 33, true);
        check.due("A rings on", x.stuck(), 3);
    }

    /** What was asked ahead of a change must not be told behind it. */
    private static void nothingStale() {
        check.says(20, "How many MOVES fewer THE WAY would take if a MARK were gone.");
        SevenPedals x = Given.started(1);
        x.note(0, 0, 26, false);
        x.mark(3, 1, 2);
        check.due("D, then D sharp", x.without(3, 1), 1);
        x.shift(1);
        check.due("D sharp, or E flat", x.without(3, 1), 0);
        check.due("and no more", x.moves(), 1);
        x.undo();
        check.due("D again", x.without(3, 1), 1);
        x.sheet(0, 8, 1);
        x.put(0, 0, 27);
        x.tune(0);
        check.due("D sharp again", x.without(3, 1), 0);
        x.undo();
        check.due("D again", x.without(3, 1), 1);
        x.start(1, 2);
        check.due("started at D sharp: there and back", x.moves(), 2);
        check.due("back", x.without(3, 1), 1);
        x.drop(0);
        check.due("nothing but D sharp", x.without(3, 1), 0);
        x.undo();
        x.undo();
        check.due("started at D", x.without(3, 1), 1);
        check.says(19, "STUCK; -1 (no finding): there is a WAY.");
        x.note(2, 0, 26, true);
        check.due("D rings", x.stuck(), 3);
        x.shift(1);
        check.due("D sharp rings", x.stuck(), -1);
        x.undo();
        check.due("D rings", x.stuck(), 3);
        x.mark(3, 1, 1);
        check.due("and stays", x.stuck(), -1);
        x.undo();
        check.due("D rings", x.stuck(), 3);
        x.beats(3);
        check.due("that is not played", x.stuck(), -1);
        x.undo();
        check.due("D rings", x.stuck(), 3);
    }

    private static void split() {
        check.says(21, "SPLIT of a BEAT by a DIAGRAM.");
        SevenPedals x = new SevenPedals();
        check.due("an empty beat", x.split(0, 0), 0);
        check.due("an empty beat that is not played", x.split(11, 2186), 0);
        x.note(11, 0, 72, false);
        check.due("the topmost", x.split(11, 2186), 0);
        x.note(11, 0, 1, false);
        check.due("and the lowest", x.split(11, 2186), 1);
        x.note(11, 0, 71, false);
        check.due("one that does not sound", x.split(11, 2186), Check.KIND);
    }

    private static void splitFindings() {
        check.says(21, "BEYOND.");
        SevenPedals x = new SevenPedals();
        x.note(0, 0, Given.TOO_HIGH, false);
        for (int beat : Given.NO_BEATS) {
            check.due("beat " + beat, x.split(beat, 0), Check.BEYOND);
        }
        for (int diagram : Given.NO_DIAGRAMS) {
            check.due("BEYOND goes ahead of KIND, diagram " + diagram, x.split(0, diagram), Check.BEYOND);
        }
        check.says(21, "KIND: the DIAGRAM does not DO.");
        check.due("not playable", x.split(0, 1093), Check.KIND);
        x.drop(0);
        x.note(0, 0, 24, false);
        x.note(0, 1, 36, false);
        check.due("two on one string", x.split(0, 1093), Check.KIND);
        x.drop(0);
        check.due("one", x.split(0, 1093), 0);
        x.mark(0, 6, 0);
        check.due("a mark not kept", x.split(0, 1093), Check.KIND);
        x.mark(0, 6, 1);
        check.due("a mark kept", x.split(0, 1093), 0);
        check.says(21, "NONE: there is none such.");
        x.note(0, 0, 0, false);
        check.due("two hands", x.split(0, 1093), 1);
        x.note(0, 0, 71, false);
        check.due("three are wanted", x.split(0, 1093), Check.NONE);
        x.mark(0, 0, 0);
        check.due("KIND goes ahead of NONE", x.split(0, 1093), Check.KIND);
    }

    /** D, G and D: each on one string alone, whatever the diagram; no two within a hand. */
    private static void writeHard(SevenPedals x, int beat) {
        x.note(beat, 0, 2, false);
        x.note(beat, 0, 26, false);
        x.note(beat, 0, 50, false);
    }

    private static void hard() {
        check.says(22, "The first BEAT of THE WAY that has no SPLIT; -1 (no finding): none.");
        SevenPedals x = new SevenPedals();
        check.due("nothing to play", x.hard(), -1);
        x.beats(12);
        for (int b = 11; b >= 0; b--) {
            writeHard(x, b);
            check.due("the first is " + b, x.hard(), b);
        }
        x.drop(0);
        check.due("two strings are two hands", x.hard(), 1);
        x.beats(1);
        check.due("the others are not played", x.hard(), -1);
        SevenPedals y = new SevenPedals();
        y.beats(1);
        for (int i = 0; i < 6; i++) {
            y.note(0, 0, 26 + (i % 2 == 0 ? 0 : 5) + 12 * (i / 2) - 12, false);
        }
        check.due("six within two hands", y.hard(), -1);
        check.due("no finding", x.all(3) + y.all(3), 0);
    }

    private static void hardNone() {
        check.says(22, "NONE: there is no WAY.");
        SevenPedals x = new SevenPedals();
        writeHard(x, 0);
        x.note(7, 0, Given.TOO_HIGH, false);
        check.due("though beat 0 is hard", x.hard(), Check.NONE);
        check.due("a finding", x.all(3), 1);
        x.beats(7);
        check.due("it is not played", x.hard(), 0);
    }
}
