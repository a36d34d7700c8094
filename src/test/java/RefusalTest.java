import java.util.ArrayList;
import java.util.List;

/**
 * Two objects are made alike; one gets a call that is refused. From then on both must answer alike.
 * So for every act, each of its findings, and each two findings that are due at once.
 */
public final class RefusalTest {
    private static final Check check = new Check();
    private static final int MIN = Integer.MIN_VALUE;
    private static final int MAX = Integer.MAX_VALUE;

    /** A name, what is due, and the arguments (a boolean as 0 or 1). */
    private record Refused(String name, int due, int... args) {
        @Override
        public String toString() {
            List<String> all = new ArrayList<>();
            for (int arg : args) {
                all.add(String.valueOf(arg));
            }
            return name + "(" + String.join(", ", all) + ")";
        }
    }

    private static final List<Refused> PART = List.of(
        new Refused("beats", Check.BEYOND, 0), new Refused("beats", Check.BEYOND, 13),
        new Refused("beats", Check.BEYOND, MIN), new Refused("beats", Check.BEYOND, MAX),
        new Refused("note", Check.BEYOND, -1, 0, 0, 1), new Refused("note", Check.BEYOND, 12, 0, 0, 1),
        new Refused("note", Check.BEYOND, 1, -1, 0, 1), new Refused("note", Check.BEYOND, 1, 4, 0, 1),
        new Refused("note", Check.BEYOND, 1, 0, -2, 1), new Refused("note", Check.BEYOND, 1, 0, 101, 1),
        new Refused("note", Check.FULL, 0, 0, 50, 1), new Refused("note", Check.BEYOND, 0, 4, 50, 1),
        new Refused("note", Check.BEYOND, 0, 0, 101, 1), new Refused("note", Check.BEYOND, 12, 4, 101, 0),
        new Refused("drop", Check.BEYOND, -1), new Refused("drop", Check.BEYOND, 12),
        new Refused("drop", Check.NONE, 5),
        new Refused("as", Check.BEYOND, -1, 0, 0), new Refused("as", Check.BEYOND, 12, 0, 0),
        new Refused("as", Check.BEYOND, 0, 6, 0), new Refused("as", Check.BEYOND, 5, 0, 0),
        new Refused("as", Check.BEYOND, 0, 0, 4), new Refused("as", Check.KIND, 0, 0, 3),
        new Refused("of", Check.BEYOND, -1, 0, 0), new Refused("of", Check.BEYOND, 0, 6, 0),
        new Refused("of", Check.BEYOND, 0, 0, 3), new Refused("of", Check.BEYOND, 5, 0, 0),
        new Refused("shift", Check.BEYOND, 13), new Refused("shift", Check.BEYOND, -13),
        new Refused("shift", Check.SIZE, 12), new Refused("shift", Check.SIZE, -12),
        new Refused("shift", Check.BEYOND, MAX), new Refused("shift", Check.BEYOND, MIN),
        new Refused("mark", Check.BEYOND, 12, 0, 0), new Refused("mark", Check.BEYOND, -1, 0, 0),
        new Refused("mark", Check.BEYOND, 1, 7, 0), new Refused("mark", Check.BEYOND, 1, -1, 0),
        new Refused("mark", Check.BEYOND, 1, 2, 3), new Refused("mark", Check.BEYOND, 1, 2, -2),
        new Refused("start", Check.BEYOND, 7, 0), new Refused("start", Check.BEYOND, -1, 0),
        new Refused("start", Check.BEYOND, 0, 3), new Refused("start", Check.BEYOND, 0, -2));

    private static final List<Refused> ASKED = List.of(
        new Refused("pitch", Check.BEYOND, 42, 0), new Refused("pitch", Check.BEYOND, 0, 2187),
        new Refused("string", Check.BEYOND, 12, 0, 0), new Refused("string", Check.BEYOND, 0, 6, 0),
        new Refused("string", Check.BEYOND, 0, 0, 2187), new Refused("string", Check.BEYOND, 11, 0, -1),
        new Refused("string", Check.NONE, 11, 0, 1093),
        new Refused("does", Check.BEYOND, 12, 0), new Refused("does", Check.BEYOND, 0, 2187),
        new Refused("many", Check.BEYOND, 12), new Refused("many", Check.BEYOND, -1),
        new Refused("diagram", Check.BEYOND, 4), new Refused("diagram", Check.BEYOND, -1),
        new Refused("stand", Check.BEYOND, 4, 0), new Refused("stand", Check.BEYOND, 0, 7),
        new Refused("foot", Check.BEYOND, 4, 0), new Refused("foot", Check.BEYOND, 4, 1),
        new Refused("without", Check.BEYOND, 12, 0), new Refused("without", Check.BEYOND, 0, 7),
        new Refused("without", Check.KIND, 0, 1),
        new Refused("split", Check.BEYOND, 12, 0), new Refused("split", Check.BEYOND, 11, 2187),
        new Refused("split", Check.KIND, 11, 0), new Refused("split", Check.NONE, 2, 1093),
        new Refused("split", Check.KIND, 2, 0),
        new Refused("run", Check.BEYOND, 0, 42, 0, 0), new Refused("run", Check.BEYOND, 0, 1, 0, 2),
        new Refused("plain", Check.BEYOND, 0, 42, 0), new Refused("plain", Check.BEYOND, 0, 0, 2187));

    private static final List<Refused> ROWS = List.of(
        new Refused("sheet", Check.BEYOND, 4, 8, 1), new Refused("sheet", Check.BEYOND, -1, 8, 1),
        new Refused("sheet", Check.BEYOND, 0, 7, 1), new Refused("sheet", Check.BEYOND, 0, 7, -1),
        new Refused("sheet", Check.BEYOND, 4, 8, -1), new Refused("sheet", Check.SIZE, 0, 8, -1),
        new Refused("sheet", Check.SIZE, 0, 0, -1), new Refused("sheet", Check.BEYOND, 0, 8, 31),
        new Refused("sheet", Check.BEYOND, 0, 0, 31), new Refused("sheet", Check.SIZE, 3, 8, MIN),
        new Refused("put", Check.BEYOND, 4, 0, 1), new Refused("put", Check.MISSING, 3, 0, 1),
        new Refused("put", Check.MISSING, 3, -1, 1), new Refused("put", Check.BEYOND, 0, -1, 1),
        new Refused("put", Check.BEYOND, 0, 12, 1), new Refused("put", Check.BEYOND, 1, 30, 1),
        new Refused("copy", Check.BEYOND, 4, 0, 0, 0, 1), new Refused("copy", Check.BEYOND, 3, 0, 4, 0, 1),
        new Refused("copy", Check.MISSING, 3, 0, 0, 0, 1), new Refused("copy", Check.MISSING, 0, -1, 3, 0, 1),
        new Refused("copy", Check.KIND, 0, 0, 2, 0, 1), new Refused("copy", Check.KIND, 0, -1, 2, 0, 99),
        new Refused("copy", Check.BEYOND, 0, 0, 1, 0, 13), new Refused("copy", Check.BEYOND, 1, 0, 0, 1, 12),
        new Refused("copy", Check.BEYOND, 0, -1, 1, 0, 1), new Refused("copy", Check.BEYOND, 0, 0, 1, -1, 1),
        new Refused("copy", Check.BEYOND, 0, 1, 1, 1, -1), new Refused("copy", Check.BEYOND, 0, MAX, 1, 0, MAX),
        new Refused("tune", Check.BEYOND, 4), new Refused("tune", Check.BEYOND, -1),
        new Refused("tune", Check.MISSING, 3), new Refused("tune", Check.SIZE, 1),
        new Refused("tune", Check.BEYOND, 2),
        new Refused("all", Check.BEYOND, 4), new Refused("all", Check.BEYOND, -1));

    /** Refused where there is no way; BEYOND and KIND are told first there, too. */
    private static final List<Refused> NO_WAY = List.of(
        new Refused("moves", Check.NONE), new Refused("ways", Check.NONE), new Refused("hard", Check.NONE),
        new Refused("diagram", Check.NONE, 0), new Refused("diagram", Check.BEYOND, 4),
        new Refused("stand", Check.NONE, 0, 0), new Refused("stand", Check.BEYOND, 4, 0),
        new Refused("stand", Check.BEYOND, 0, 7), new Refused("foot", Check.NONE, 0, 1),
        new Refused("foot", Check.BEYOND, 4, 1), new Refused("without", Check.NONE, 1, 6),
        new Refused("without", Check.KIND, 0, 1), new Refused("without", Check.BEYOND, 12, 1));

    public static void main(String[] args) {
        check.says(0, "an act that answers a finding changes nothing");
        for (List<Refused> list : List.of(PART, ASKED, ROWS)) {
            for (Refused refused : list) {
                isRefused(refused, false);
            }
        }
        for (Refused refused : NO_WAY) {
            isRefused(refused, true);
        }
        undoIsRefused();
        check.says(0, "Each act tells its findings in the order in which they are asked");
        severalAtOnce();
        check.end();
    }

    private static void isRefused(Refused refused, boolean noWay) {
        SevenPedals x = made(noWay);
        SevenPedals y = made(noWay);
        check.due(refused.toString(), call(x, refused), refused.due);
        int more = x.all(3) - y.all(3);
        check.due("findings behind " + refused, more, 1);
        alike("behind " + refused, x, y);
    }

    private static void undoIsRefused() {
        SevenPedals x = new SevenPedals();
        SevenPedals y = new SevenPedals();
        check.due("undo()", x.undo(), Check.NONE);
        check.due("findings behind undo()", x.all(3), 1);
        alike("behind undo()", x, y);
    }

    private static void severalAtOnce() {
        SevenPedals x = made(false);
        check.due("as: BEYOND, then KIND", x.as(12, 0, 3), Check.BEYOND);
        check.due("string: BEYOND, then NONE", x.string(11, 0, 2187), Check.BEYOND);
        check.due("shift: BEYOND, then SIZE", x.shift(13), Check.BEYOND);
        check.due("put: BEYOND, then MISSING", x.put(4, -1, 0), Check.BEYOND);
        check.due("tune: SIZE, then BEYOND", x.tune(1), Check.SIZE);
        check.due("sheet: BEYOND, then SIZE", x.sheet(4, 7, -1), Check.BEYOND);
        check.due("copy: MISSING, then KIND", x.copy(3, 0, 2, 0, 1), Check.MISSING);
        x.sheet(0, 0, 0);
        check.due("copy: BEYOND, then MISSING", x.copy(0, -1, 4, 0, 1), Check.BEYOND);
    }

    /** Four beats, of which the first is full; sheets of 12, 30 and 2 numbers, the last one missing. */
    private static SevenPedals made(boolean noWay) {
        SevenPedals x = new SevenPedals();
        for (int i = 0; i < 6; i++) {
            x.note(0, i == 1 ? 3 : 0, i == 1 ? 45 : 12 + 2 * i + i / 3, false);
        }
        x.drop(0);
        x.note(0, 0, 95, true);
        x.drop(0);
        x.note(0, 2, 22, true);
        x.note(1, 1, 38, true);
        for (int i = 0; i < 3; i++) {
            x.note(2, 0, 2 + 24 * i, i == 1);
        }
        x.note(11, 0, 90, true);
        x.note(10, 0, 0, true);
        x.beats(noWay ? 12 : 4);
        x.beats(4);
        x.mark(1, 6, 2);
        x.mark(11, 6, 1);
        x.start(3, 1);
        if (noWay) {
            x.note(3, 0, 73, false);
        }
        fillSheets(x);
        return x;
    }

    private static void fillSheets(SevenPedals x) {
        x.sheet(0, 8, 12);
        x.sheet(1, 8, 30);
        x.sheet(2, 16, 2);
        for (int i = 0; i < 12; i++) {
            x.put(0, i, 30 + i);
        }
        for (int i = 0; i < 30; i++) {
            x.put(1, i, 60 + i);
        }
        x.put(2, 1, 101);
    }

    private static int call(SevenPedals x, Refused refused) {
        int[] a = refused.args;
        return switch (refused.name) {
            case "beats" -> x.beats(a[0]);
            case "note" -> x.note(a[0], a[1], a[2], a[3] == 1);
            case "drop" -> x.drop(a[0]);
            case "as" -> x.as(a[0], a[1], a[2]);
            case "of" -> x.of(a[0], a[1], a[2]);
            case "shift" -> x.shift(a[0]);
            case "mark" -> x.mark(a[0], a[1], a[2]);
            case "start" -> x.start(a[0], a[1]);
            case "pitch" -> x.pitch(a[0], a[1]);
            case "string" -> x.string(a[0], a[1], a[2]);
            case "does" -> x.does(a[0], a[1]);
            case "many" -> x.many(a[0]);
            case "diagram" -> x.diagram(a[0]);
            case "stand" -> x.stand(a[0], a[1]);
            case "foot" -> x.foot(a[0], a[1] == 1);
            case "without" -> x.without(a[0], a[1]);
            case "split" -> x.split(a[0], a[1]);
            case "run" -> x.run(a[0], a[1], a[2], a[3]);
            case "plain" -> x.plain(a[0], a[1], a[2]);
            case "sheet" -> x.sheet(a[0], a[1], a[2]);
            case "put" -> x.put(a[0], a[1], a[2]);
            case "copy" -> x.copy(a[0], a[1], a[2], a[3], a[4]);
            case "tune" -> x.tune(a[0]);
            default -> callShort(x, refused);
        };
    }

    private static int callShort(SevenPedals x, Refused refused) {
        return switch (refused.name) {
            case "all" -> x.all(refused.args[0]);
            case "moves" -> x.moves();
            case "ways" -> x.ways();
            case "hard" -> x.hard();
            default -> 0;
        };
    }

    /** Asks both for all that they hold; what is asked changes both alike. */
    private static void alike(String when, SevenPedals x, SevenPedals y) {
        wayAlike(when, x, y);
        partAlike(when, x, y);
        sheetsAlike(when, x, y);
    }

    private static void wayAlike(String when, SevenPedals x, SevenPedals y) {
        check.due("moves " + when, x.moves(), y.moves());
        check.due("ways " + when, x.ways(), y.ways());
        check.due("stuck " + when, x.stuck(), y.stuck());
        check.due("hard " + when, x.hard(), y.hard());
        for (int b = 0; b < 4; b++) {
            check.due("diagram " + when, x.diagram(b), y.diagram(b));
        }
        check.due("without " + when, x.without(1, 6), y.without(1, 6));
    }

    private static void partAlike(String when, SevenPedals x, SevenPedals y) {
        for (int what = 0; what < 3; what++) {
            check.due("all " + when, x.all(what), y.all(what));
        }
        for (int b = 0; b < 12; b++) {
            for (int i = 0; i < 7; i++) {
                int pitch = y.of(b, i, 1);
                check.due("pitch " + when, x.of(b, i, 1), pitch);
                if (pitch > Check.BEYOND) {
                    check.due("kind " + when, x.of(b, i, 0), y.of(b, i, 0));
                    check.due("rings " + when, x.of(b, i, 2), y.of(b, i, 2));
                }
            }
        }
        for (int i = 0; i < 21; i++) {
            check.due("undo " + when, x.undo(), y.undo());
            check.due("notes then, " + when, x.all(1), y.all(1));
        }
        for (int at = 0; at < 84; at++) {
            check.due("mark " + when, x.mark(at / 7, at % 7, -1), y.mark(at / 7, at % 7, -1));
        }
        for (int p = 0; p < 7; p++) {
            check.due("start " + when, x.start(p, -1), y.start(p, -1));
        }
    }

    private static void sheetsAlike(String when, SevenPedals x, SevenPedals y) {
        for (int s = 0; s < 4; s++) {
            check.due("missing " + when, x.put(s, -1, 0), y.put(s, -1, 0));
            check.due("bits " + when, x.copy(s, 0, 0, 0, 0), y.copy(s, 0, 0, 0, 0));
            check.due("tune " + when, x.tune(s), y.tune(s));
            for (int b = 0; b < 12; b++) {
                check.due("number " + when, x.of(b, 0, 1), y.of(b, 0, 1));
            }
        }
        for (int from = 0; from < 30; from += 6) {
            check.due("copy " + when, x.copy(1, from, 0, 0, 6), y.copy(1, from, 0, 0, 6));
            check.due("tune " + when, x.tune(0), y.tune(0));
            for (int b = 0; b < 6; b++) {
                check.due("number " + when, x.of(b, 0, 1), y.of(b, 0, 1));
            }
        }
        check.due("as long " + when, x.copy(1, 30, 0, 12, 0), y.copy(1, 30, 0, 12, 0));
    }
}
