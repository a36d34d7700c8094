/** The Terms of the document, each sentence that names an edge. 1093 has every pedal at stand 1. */
public final class EdgeTermsTest {
    private static final Check check = new Check();
    private static final int MIN = Integer.MIN_VALUE;
    private static final int MAX = Integer.MAX_VALUE;
    private static final int[] WEIGHT = {1, 3, 9, 27, 81, 243, 729};

    public static void main(String[] args) {
        findings();
        strings();
        pitches();
        pedals();
        feet();
        diagrams();
        beats();
        notes();
        ringing();
        ringingLocksALetter();
        harmonics();
        marks();
        starts();
        leastString();
        endsOfTheStrings();
        doing();
        oneMoveAFoot();
        firstBeat();
        movesOfAWay();
        theWay();
        stuck();
        fingers();
        spans();
        split();
        runs();
        sheets();
        check.end();
    }

    private static void findings() {
        check.says(0, "FINDINGS are answers below -99999: -100001 BEYOND, -100002 MISSING, -100003 SIZE, "
            + "-100004 KIND, -100005 FULL, -100006 NONE.");
        SevenPedals x = new SevenPedals();
        check.due("BEYOND", x.beats(0), -100001);
        check.due("MISSING", x.tune(0), -100002);
        check.due("SIZE", x.sheet(0, 8, -1), -100003);
        check.due("KIND", x.without(0, 0), -100004);
        for (int i = 0; i < 6; i++) {
            x.note(0, 0, i, false);
        }
        check.due("FULL", x.note(0, 0, 6, false), -100005);
        check.due("NONE", x.drop(1), -100006);
        check.due("all six", x.all(3), 6);
        check.due("an answer below 0 that is none", x.pitch(0, 0), -1);
        check.due("still six", x.all(3), 6);
    }

    private static void strings() {
        check.says(0, "STRINGS are 0 to 41; the LETTER of one is its rest by 7");
        SevenPedals x = new SevenPedals();
        check.due("string -1", x.pitch(-1, 0), Check.BEYOND);
        check.due("string 0", x.pitch(0, 1093), 0);
        check.due("string 41", x.pitch(41, 1093), 71);
        check.due("string 42", x.pitch(42, 0), Check.BEYOND);
        for (int s = 0; s < 42; s++) {
            for (int p = 0; p < 7; p++) {
                int want = Given.natural(s) + (s % 7 == p ? 1 : 0);
                check.due("string " + s + ", pedal " + p + " up", x.pitch(s, 1093 + WEIGHT[p]), want);
            }
        }
    }

    private static void pitches() {
        check.says(0, "PITCH of a STRING: 12 times (it by 7, cut), and 0, 2, 4, 5, 7, 9, 11 for its LETTER, "
            + "and STAND less 1 of its PEDAL.");
        SevenPedals x = new SevenPedals();
        for (int octave = 0; octave < 6; octave++) {
            for (int stand = 0; stand < 3; stand++) {
                int diagram = stand * 1093;
                check.due("C", x.pitch(7 * octave, diagram), 12 * octave + stand - 1);
                check.due("F", x.pitch(7 * octave + 3, diagram), 12 * octave + 5 + stand - 1);
                check.due("B", x.pitch(7 * octave + 6, diagram), 12 * octave + 11 + stand - 1);
            }
        }
    }

    private static void pedals() {
        check.says(0, "PEDALS are 0 to 6, one for each LETTER");
        SevenPedals x = new SevenPedals();
        check.due("pedal -1", x.start(-1, 0), Check.BEYOND);
        check.due("pedal 0", x.start(0, 0), -1);
        check.due("pedal 6", x.start(6, 0), -1);
        check.due("pedal 7", x.start(7, 0), Check.BEYOND);
        check.says(0, "A PEDAL has a STAND: 0, 1, 2.");
        check.due("stand 0", x.start(1, 0), -1);
        check.due("stand 2", x.start(1, 2), 0);
        check.due("stand 3", x.start(1, 3), Check.BEYOND);
        check.due("stand -2", x.start(1, -2), Check.BEYOND);
    }

    private static void feet() {
        check.says(0, "6, 0, 1 are of the LEFT FOOT, 2, 3, 4, 5 of the RIGHT.");
        for (int p = 0; p < 7; p++) {
            for (int q = p + 1; q < 7; q++) {
                SevenPedals x = Given.started(1);
                x.mark(0, p, 0);
                x.mark(0, q, 2);
                boolean sameFoot = (p == 6 || p < 2) == (q == 6 || q < 2);
                check.due(p + " and " + q + " at once", x.moves(), sameFoot ? Check.NONE : 2);
            }
        }
    }

    private static void diagrams() {
        check.says(0, "A DIAGRAM: the STANDS of all PEDALS, told as a number: that of PEDAL 0, and 3 times "
            + "that of PEDAL 1, and so on (powers of 3).");
        for (int p = 0; p < 7; p++) {
            for (int stand = 0; stand < 3; stand++) {
                SevenPedals x = new SevenPedals();
                x.mark(0, p, stand);
                check.due("pedal " + p + " at " + stand, x.diagram(0), stand * WEIGHT[p]);
            }
        }
        SevenPedals x = new SevenPedals();
        for (int p = 0; p < 7; p++) {
            x.mark(0, p, 2);
        }
        check.due("the last of all", x.diagram(0), 2186);
        check.due("it does alone", x.many(0), 1);
    }

    private static void beats() {
        check.says(0, "BEATS are 0 to 11; of these the first 8 are played at first (1 to 12 may be).");
        SevenPedals x = new SevenPedals();
        check.due("beat -1", x.many(-1), Check.BEYOND);
        check.due("beat 0", x.many(0), 2187);
        check.due("beat 11", x.many(11), 2187);
        check.due("beat 12", x.many(12), Check.BEYOND);
        check.due("beat 7 is played", x.diagram(7), 0);
        check.due("beat 8 is not", x.diagram(8), Check.BEYOND);
        check.due("beats(1)", x.beats(1), 8);
        check.due("beat 0 is played", x.diagram(0), 0);
        check.due("beat 1 is not", x.diagram(1), Check.BEYOND);
        check.due("beats(12)", x.beats(12), 1);
        check.due("beat 11 is played", x.diagram(11), 0);
        check.due("beat 12 is not", x.diagram(12), Check.BEYOND);
    }

    private static void notes() {
        check.says(0, "A BEAT has NOTES 0, 1, .. (at most 6), in order");
        SevenPedals x = new SevenPedals();
        for (int b = 0; b < 12; b++) {
            for (int i = 0; i < 6; i++) {
                check.due("note", x.note(b, 0, 7 * b + i, false), i);
            }
            check.due("a seventh", x.note(b, 0, 0, false), Check.FULL);
        }
        check.due("six in each", x.all(1), 72);
        for (int b = 0; b < 12; b++) {
            for (int i = 0; i < 6; i++) {
                check.due("in order", x.of(b, i, 1), 7 * b + i);
            }
        }
        check.says(0, "a PITCH (-1 to 100)");
        SevenPedals y = new SevenPedals();
        check.due("pitch -2", y.note(0, 0, -2, false), Check.BEYOND);
        check.due("pitch -1", y.note(0, 0, -1, false), 0);
        check.due("pitch 100", y.note(0, 0, 100, false), 1);
        check.due("pitch 101", y.note(0, 0, 101, false), Check.BEYOND);
        check.due("pitch min", y.note(0, 0, MIN, false), Check.BEYOND);
        check.due("pitch max", y.note(0, 0, MAX, false), Check.BEYOND);
        for (int kind = 1; kind < 4; kind++) {
            check.due("kind " + kind + " at -1", y.note(kind, kind, -1, false), 0);
            check.due("kind " + kind + " at 100", y.note(kind, kind, 100, false), 1);
            check.due("kind " + kind + " at -2", y.note(kind, kind, -2, false), Check.BEYOND);
            check.due("kind " + kind + " at 101", y.note(kind, kind, 101, false), Check.BEYOND);
        }
    }

    private static void ringing() {
        check.says(0, "it RINGS over the next BEAT, or not (MUTED ones never do)");
        for (int kind = 0; kind < 4; kind++) {
            int above = kind == 1 ? 12 : kind == 3 ? 19 : 0;
            SevenPedals x = Given.started(1);
            x.note(0, kind, 26 + above, true);
            x.mark(1, 1, 2);
            check.due("kind " + kind, x.of(0, 0, 2), kind == 2 ? 0 : 1);
            check.due("kind " + kind + " over the next", x.moves(), kind == 2 ? 1 : Check.NONE);
            x.mark(1, 1, -1);
            x.mark(2, 1, 2);
            check.due("kind " + kind + " no longer", x.moves(), 1);
        }
        SevenPedals x = Given.started(1);
        x.beats(2);
        x.note(1, 0, 25, true);
        check.due("not over the move that comes to it", x.moves(), 1);
        x.note(2, 0, 26, false);
        x.mark(2, 0, 1);
        check.due("nor behind the last that is played", x.stuck(), -1);
        x.beats(3);
        check.due("C sharp must stay, and D flat, too", x.stuck(), 2);
    }

    private static void ringingLocksALetter() {
        check.says(0, "and none with a LETTER of a NOTE that RINGS from the BEAT ahead.");
        for (int p = 0; p < 7; p++) {
            for (int octave = 0; octave < 6; octave++) {
                SevenPedals x = Given.started(1);
                x.beats(2);
                for (int q = 0; q < 7; q++) {
                    x.mark(0, q, 1);
                }
                x.note(0, 0, Given.natural(7 * octave + p), true);
                for (int q = 0; q < 7; q++) {
                    x.mark(1, q, 2);
                    check.due("letter " + p + " rings, " + q + " moves", x.moves(), q == p ? Check.NONE : 1);
                    x.mark(1, q, -1);
                }
            }
        }
    }

    private static void harmonics() {
        check.says(0, "A HARMONIC sounds 12, a HIGH one 19 above the PITCH of its STRING.");
        int[] above = {0, 12, 0, 19};
        for (int kind = 0; kind < 4; kind++) {
            SevenPedals x = new SevenPedals();
            int low = -1 + above[kind];
            int high = 72 + above[kind];
            x.note(0, kind, low, false);
            check.due("kind " + kind + " on the lowest", x.string(0, 0, 0), 0);
            check.due("kind " + kind + " on it alone", x.many(0), 729);
            x.note(1, kind, high, false);
            check.due("kind " + kind + " on the topmost", x.string(1, 0, 2186), 41);
            check.due("kind " + kind + " on it alone", x.many(1), 729);
            x.note(2, kind, high + 1, false);
            check.due("kind " + kind + " above all", x.many(2), 0);
            if (low > -1) {
                x.note(3, kind, low - 1, false);
                check.due("kind " + kind + " below all", x.many(3), 0);
                x.note(4, kind, -1, false);
                check.due("kind " + kind + " far below", x.many(4), 0);
            }
            x.note(5, kind, 100, false);
            check.due("kind " + kind + " far above", x.many(5), 0);
        }
    }

    private static void marks() {
        check.says(0, "WRITER'S MARKS: at a BEAT a PEDAL must STAND so.");
        SevenPedals x = new SevenPedals();
        x.mark(3, 2, 1);
        for (int d = 0; d < 2187; d += 9) {
            check.due("does", x.does(3, d), d / 9 % 3 == 1 ? 1 : 0);
        }
        check.due("a third does", x.many(3), 729);
        check.due("other beats are free", x.many(2), 2187);
    }

    private static void starts() {
        check.says(0, "START: a PEDAL must STAND so ahead of BEAT 0 (else it may stand as is best).");
        SevenPedals x = new SevenPedals();
        for (int p = 0; p < 7; p++) {
            x.mark(0, p, 2);
        }
        check.due("all as is best", x.moves(), 0);
        x.start(0, 1);
        check.due("one told otherwise", x.moves(), 1);
        x.start(2, 1);
        check.due("one of each foot", x.moves(), 2);
        x.start(1, 2);
        check.due("one told so", x.moves(), 2);
        x.start(1, 0);
        check.due("two of a foot", x.moves(), Check.NONE);
        x.start(1, -1);
        check.due("no longer told", x.moves(), 2);
    }

    private static void leastString() {
        check.says(0, "is on the least STRING of those that let it sound as its PITCH");
        SevenPedals x = new SevenPedals();
        for (int p = 0; p < 7; p++) {
            int q = (p + 1) % 7;
            int string = 14 + p;
            int gap = Given.natural(string + 1) - Given.natural(string);
            for (int up = gap; up < 3; up++) {
                int down = up - gap;
                int both = 1093 + (up - 1) * WEIGHT[p] + (down - 1) * WEIGHT[q];
                x.note(0, 0, Given.natural(string) + up - 1, false);
                check.due("letters " + p + " and " + q + " alike", x.string(0, 0, both), string);
                check.due("and on it alone", x.does(0, both), 1);
                int other = both - WEIGHT[p];
                check.due("the upper one else", x.string(0, 0, other), string + 1);
                x.drop(0);
            }
        }
    }

    private static void endsOfTheStrings() {
        check.says(0, "it is PLAYABLE if there is one.");
        int[][] manyByPitch = {
            {-1, 729}, {0, 729}, {1, 1215}, {2, 729}, {11, 1215}, {12, 1215},
            {70, 1215}, {71, 729}, {72, 729}, {73, 0}, {100, 0},
        };
        for (int[] due : manyByPitch) {
            SevenPedals x = new SevenPedals();
            x.note(0, 0, due[0], false);
            check.due("pitch " + due[0], x.many(0), due[1]);
        }
        SevenPedals x = new SevenPedals();
        x.note(0, 0, 0, false);
        check.due("no B below the lowest C", x.string(0, 0, 2186), Check.NONE);
        x.note(0, 0, 71, false);
        check.due("no C above the topmost B", x.string(0, 1, 0), Check.NONE);
    }

    private static void doing() {
        check.says(0, "A DIAGRAM DOES for a BEAT if each of its NOTES is PLAYABLE, no two are on one STRING, "
            + "and all MARKS of that BEAT are kept.");
        SevenPedals x = new SevenPedals();
        check.due("no notes, no marks", x.does(0, 0), 1);
        for (int i = 0; i < 6; i++) {
            x.note(0, 0, Given.natural(6 * i), false);
        }
        check.due("six", x.does(0, 1093), 1);
        x.drop(0);
        x.note(0, 2, Given.natural(0), false);
        check.due("the first and the last on one", x.does(0, 1093), 0);
        x.drop(0);
        x.note(0, 0, 100, false);
        check.due("the last is not playable", x.does(0, 1093), 0);
        x.drop(0);
        for (int p = 0; p < 7; p++) {
            x.mark(0, p, 1);
        }
        check.due("all pedals marked", x.does(0, 1093), 1);
        for (int p = 0; p < 7; p++) {
            x.mark(0, p, 2);
            check.due("all kept but one", x.does(0, 1093), 0);
            x.mark(0, p, 1);
        }
        SevenPedals y = new SevenPedals();
        y.note(0, 0, 12, false);
        y.note(0, 0, 13, false);
        check.due("B sharp and C sharp", y.does(0, 1093 + 729 + 1), 1);
        check.due("C and D flat", y.does(0, 1093 - 3), 1);
        y.note(1, 0, 12, false);
        y.note(1, 1, 24, false);
        check.due("C and its harmonic have no string each", y.many(1), 0);
    }

    private static void oneMoveAFoot() {
        check.says(0, "from one BEAT to the next each FOOT moves one of its PEDALS at most, to any STAND");
        int[][] feet = {{6, 0, 1}, {2, 3, 4, 5}};
        for (int[] foot : feet) {
            for (int n = 1; n <= foot.length; n++) {
                SevenPedals x = Given.started(0);
                for (int i = 0; i < n; i++) {
                    x.mark(n - 1, foot[i], 2);
                }
                check.due(n + " pedals in " + n + " beats", x.moves(), n);
                if (n > 1) {
                    x.mark(n - 2, foot[0], 2);
                    check.due("one of them ahead of the others", x.moves(), n);
                }
                SevenPedals y = Given.started(0);
                for (int i = 0; i < n && n > 1; i++) {
                    y.mark(n - 2, foot[i], 2);
                }
                check.due(n + " pedals in a beat fewer", y.moves(), n == 1 ? 0 : Check.NONE);
            }
        }
        for (int from = 0; from < 3; from++) {
            for (int to = 0; to < 3; to++) {
                SevenPedals x = new SevenPedals();
                x.mark(0, 5, from);
                x.mark(1, 5, to);
                check.due(from + " to " + to, x.moves(), from == to ? 0 : 1);
            }
        }
    }

    private static void firstBeat() {
        check.says(0, "The first BEAT'S DIAGRAM has PEDALS as START tells, but that each FOOT may have moved one "
            + "(each that differs is a move; those that START does not tell cost nothing).");
        SevenPedals x = Given.started(1);
        x.beats(1);
        check.due("none differs", x.moves(), 0);
        check.due("one way", x.ways(), 1);
        x.mark(0, 1, 0);
        x.mark(0, 4, 0);
        check.due("one of each", x.moves(), 2);
        x.mark(0, 5, 2);
        check.due("two of the right", x.moves(), Check.NONE);
        x.start(5, -1);
        check.due("that one is not told", x.moves(), 2);
        x.start(1, -1);
        check.due("nor that one", x.moves(), 1);
        x.start(4, -1);
        check.due("nor that one", x.moves(), 0);
        check.due("ways of those that are told", x.ways(), 1);
        x.start(0, -1);
        check.due("ways of one that is not", x.ways(), 3);
        SevenPedals y = Given.started(1);
        y.note(0, 0, 26, true);
        y.start(1, 2);
        check.due("nothing rings ahead of beat 0", y.moves(), 1);
    }

    private static void movesOfAWay() {
        check.says(0, "MOVES of a WAY: how many PEDALS moved in all.");
        SevenPedals x = Given.started(0);
        for (int b = 0; b < 8; b++) {
            x.mark(b, 0, b % 2 * 2);
        }
        check.due("one pedal, seven times", x.moves(), 7);
        for (int b = 0; b < 8; b++) {
            x.mark(b, 5, 1 + b % 2);
        }
        check.due("another, eight times", x.moves(), 15);
        x.beats(1);
        check.due("at one beat", x.moves(), 1);
    }

    private static void theWay() {
        check.says(0, "THE WAY: that of the fewest MOVES; of several the one whose DIAGRAM at the first BEAT "
            + "where they differ is the least number.");
        SevenPedals x = new SevenPedals();
        check.due("of all the least", x.diagram(0), 0);
        check.due("to the end", x.diagram(7), 0);
        x = Given.started(0);
        x.mark(7, 0, 1);
        check.due("up as late as may be", x.diagram(6), 0);
        check.due("then", x.diagram(7), 1);
        x = Given.started(1);
        x.mark(7, 0, 0);
        check.due("down at once", x.diagram(0), 1092);
        x = Given.started(1);
        x.mark(7, 6, 0);
        x.mark(7, 0, 0);
        check.due("the greater weight first", x.diagram(0), 1093 - 729);
        check.due("then the other", x.diagram(1), 1092 - 729);
        x = Given.started(0);
        x.mark(7, 6, 1);
        x.mark(7, 0, 1);
        check.due("the lesser weight first", x.diagram(6), 1);
        check.due("nothing ahead of it", x.diagram(5), 0);
        x = new SevenPedals();
        x.start(6, 2);
        check.due("fewest moves go ahead of the least number", x.diagram(0), 1458);
    }

    private static void stuck() {
        check.says(0, "STUCK: the first BEAT up to which (with it) there is no WAY for the BEATS up to it alone.");
        for (int b = 0; b < 12; b++) {
            SevenPedals x = new SevenPedals();
            x.beats(12);
            x.note(b, 0, 73, false);
            check.due("beat " + b + " can't be played", x.stuck(), b);
            x.note(11, 0, 73, false);
            check.due("beat " + b + ", and the last", x.stuck(), b);
            x.note(0, 0, 73, false);
            check.due("beat " + b + ", and the first", x.stuck(), 0);
        }
        SevenPedals x = Given.started(0);
        x.mark(2, 2, 1);
        x.mark(2, 3, 1);
        x.mark(2, 4, 1);
        check.due("three of a foot in three beats", x.stuck(), -1);
        x.mark(2, 5, 1);
        check.due("four: each alone could be had", x.stuck(), 2);
        x.beats(2);
        check.due("but it is not played", x.stuck(), -1);
    }

    private static void fingers() {
        check.says(0, "a HAND has four FINGERS (a HARMONIC, or HIGH one, takes two)");
        check.due("four", Given.chord(10, 11, 12, 13).split(0, 1093), 0);
        check.due("five", Given.chord(10, 11, 12, 13, 14).split(0, 1093), 1);
        int[] above = {0, 12, 0, 19};
        for (int kind = 0; kind < 4; kind++) {
            boolean two = above[kind] > 0;
            SevenPedals x = Given.chord(10, 11);
            x.note(0, kind, Given.natural(12) + above[kind], false);
            check.due("two and one of kind " + kind, x.split(0, 1093), 0);
            x.note(0, kind, Given.natural(13) + above[kind], false);
            check.due("two and two of kind " + kind, x.split(0, 1093), two ? 2 : 0);
            x.note(0, kind, Given.natural(14) + above[kind], false);
            check.due("two and three of kind " + kind, x.split(0, 1093), two ? 3 : 1);
            x.note(0, kind, Given.natural(15) + above[kind], false);
            check.due("two and four of kind " + kind, x.split(0, 1093), two ? Check.NONE : 2);
        }
    }

    private static void spans() {
        check.says(0, "its highest STRING is at most 9 above its lowest.");
        check.due("the right hand, 9", Given.chord(0, 9).split(0, 1093), 0);
        check.due("the right hand, 10", Given.chord(0, 10).split(0, 1093), 1);
        check.due("the left hand, 9", Given.chord(0, 9, 20).split(0, 1093), 2);
        check.due("the left hand, 10", Given.chord(0, 10, 20).split(0, 1093), Check.NONE);
        check.due("both, 9", Given.chord(0, 9, 32, 41).split(0, 1093), 2);
        check.due("the upper 10", Given.chord(0, 9, 31, 41).split(0, 1093), Check.NONE);
        check.due("the lower 10", Given.chord(0, 10, 32, 41).split(0, 1093), Check.NONE);
        check.due("one in each hand", Given.chord(0, 41).split(0, 1093), 1);
    }

    private static void split() {
        check.says(0, "SPLIT: the least number of STRINGS for the LEFT HAND by which both can.");
        check.due("none at all", Given.chord().split(0, 1093), 0);
        check.due("one, for the right", Given.chord(20).split(0, 1093), 0);
        check.due("one below the others", Given.chord(0, 10, 11, 12).split(0, 1093), 1);
        check.due("four below two", Given.chord(0, 1, 2, 3, 40, 41).split(0, 1093), 4);
        check.due("five below one", Given.chord(0, 1, 2, 3, 4, 41).split(0, 1093), Check.NONE);
        check.due("one below five", Given.chord(0, 37, 38, 39, 40, 41).split(0, 1093), Check.NONE);
        check.due("two below four", Given.chord(0, 1, 38, 39, 40, 41).split(0, 1093), 2);
    }

    private static void runs() {
        check.says(0, "A RUN by a DIAGRAM from STRING a to STRING b: the PITCHES of all STRINGS from a to b, "
            + "one behind the other, up or down.");
        SevenPedals x = new SevenPedals();
        check.due("up, first", x.run(3, 8, 1093, 0), 5);
        check.due("up, last", x.run(3, 8, 1093, 5), 14);
        check.due("up, behind it", x.run(3, 8, 1093, 6), Check.BEYOND);
        check.due("down, first", x.run(8, 3, 1093, 0), 14);
        check.due("down, last", x.run(8, 3, 1093, 5), 5);
        check.due("down, behind it", x.run(8, 3, 1093, 6), Check.BEYOND);
        check.due("one string", x.run(41, 41, 1093, 0), 71);
        check.due("one string, behind it", x.run(41, 41, 1093, 1), Check.BEYOND);
        check.says(0, "PLAIN: how many different PITCHES it has.");
        check.due("all of them", x.plain(0, 41, 1093), 42);
        check.due("all of them, down", x.plain(41, 0, 1093), 42);
        check.due("one", x.plain(41, 41, 0), 1);
        int fewest = 2 + 3 * 0 + 9 * 2 + 27 * 1 + 81 * 0 + 243 * 0 + 729 * 2;
        check.due("C sharp as D flat, E sharp as F, B sharp as C no more", x.plain(0, 6, fewest), 5);
    }

    private static void sheets() {
        check.says(0, "SHEETS 0 to 3 are rows of up to 30 numbers of 8, 16 or 32 bits, or MISSING (all, at first).");
        SevenPedals x = new SevenPedals();
        for (int s = 0; s < 4; s++) {
            check.due("missing", x.put(s, 0, 0), Check.MISSING);
        }
        check.due("sheet -1", x.put(-1, 0, 0), Check.BEYOND);
        check.due("sheet 4", x.put(4, 0, 0), Check.BEYOND);
        for (int s = 0; s < 4; s++) {
            check.due("thirty", x.sheet(s, 8 << s % 3, 30), 30);
            check.due("the last", x.put(s, 29, 1), 0);
            check.due("behind it", x.put(s, 30, 1), Check.BEYOND);
            check.due("one more", x.sheet(s, 8, 31), Check.BEYOND);
        }
    }
}
