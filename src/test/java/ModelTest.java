import java.util.Random;

/** Random runs of calls, the same in each test: SevenPedals and Model must answer alike. */
public final class ModelTest {
    private static final int RUNS = 100;
    private static final int WALKS_A_RUN = 8;
    private static final int CALLS = 160;
    /** With what goes ahead of them and is asked behind them: all 512 that an object is used for. */
    private static final int MOST_CALLS = 370;
    private static final int[] WHITE = {0, 2, 4, 5, 7, 9, 11};
    private static final int[] ODD = {-2, -1, 12, 42, 2187, Integer.MIN_VALUE, Integer.MAX_VALUE};

    private final Check check;
    private final Random random;
    private final SevenPedals x = new SevenPedals();
    private final Model y = new Model();
    private final int run;
    private final int busy;

    private ModelTest(Check check, int run) {
        this.check = check;
        this.run = run;
        random = new Random(run);
        busy = run % 6;
    }

    public static void main(String[] args) {
        Check check = new Check();
        int runs = args.length > 0 ? Integer.parseInt(args[0]) : RUNS;
        for (int run = 0; run < runs; run++) {
            new ModelTest(check, run).calls();
            for (int walk = 0; walk < WALKS_A_RUN; walk++) {
                new ModelTest(check, runs + run * WALKS_A_RUN + walk).walk();
            }
        }
        check.end();
    }

    private void calls() {
        begin();
        int calls = run % 10 == 0 ? MOST_CALLS : CALLS;
        for (int i = 0; i < calls; i++) {
            call();
        }
        askAllOfTheWay();
    }

    private void askAllOfTheWay() {
        for (int b = 0; b < 12; b++) {
            same("diagram", x.diagram(b), y.diagram(b));
            same("left foot", x.foot(b, false), y.foot(b, false));
            same("right foot", x.foot(b, true), y.foot(b, true));
            for (int p = 0; p < 7; p++) {
                same("without", x.without(b, p), y.without(b, p));
            }
        }
        same("moves", x.moves(), y.moves());
        same("ways", x.ways(), y.ways());
        same("stuck", x.stuck(), y.stuck());
        same("all", x.all(3), y.all(3));
    }

    /** A part of ringing chords, made along a walk of both feet: mostly it has a way, or nearly. */
    private void walk() {
        int n = 2 + random.nextInt(4);
        int[] stands = new int[7];
        int alike = random.nextInt(6);
        for (int p = 0; p < 7; p++) {
            stands[p] = alike < 3 ? alike : random.nextInt(3);
            if (random.nextInt(8) > 0) {
                same("start", x.start(p, stands[p]), y.start(p, stands[p]));
            }
        }
        same("beats", x.beats(n), y.beats(n));
        for (int b = 0; b < n; b++) {
            if (random.nextInt(3) > 0) {
                stands[new int[] {6, 0, 1}[random.nextInt(3)]] = random.nextInt(3);
            }
            if (random.nextInt(3) > 0) {
                stands[2 + random.nextInt(4)] = random.nextInt(3);
            }
            writeBeat(b, stands);
        }
        askAllOfTheWay();
        int b = random.nextInt(n);
        same("drop", x.drop(b), y.drop(b));
        same("moves", x.moves(), y.moves());
        same("stuck", x.stuck(), y.stuck());
    }

    private void writeBeat(int b, int[] stands) {
        int notes = random.nextInt(4);
        for (int i = 0; i < notes; i++) {
            int string = random.nextInt(42);
            int kind = random.nextInt(4);
            int above = kind == 1 ? 12 : kind == 3 ? 19 : 0;
            int pitch = 12 * (string / 7) + WHITE[string % 7] + stands[string % 7] - 1 + above;
            boolean rings = random.nextInt(4) > 0;
            same("note", x.note(b, kind, pitch, rings), y.note(b, kind, pitch, rings));
        }
        for (int p = 0; p < 7; p++) {
            if (random.nextInt(3) == 0) {
                same("mark", x.mark(b, p, stands[p]), y.mark(b, p, stands[p]));
            }
        }
    }

    /** In every other run the pedals are told how to stand, and marked otherwise at two beats. */
    private void begin() {
        for (int s = 0; s < 3; s++) {
            int size = random.nextInt(12);
            same("sheet", x.sheet(s, 8, size), y.sheet(s, 8, size));
        }
        for (int p = 0; p < 7 && run % 2 == 0; p++) {
            int stand = random.nextInt(3);
            same("start", x.start(p, stand), y.start(p, stand));
        }
        for (int i = 0; i < 4 && run % 2 == 0; i++) {
            int b = 2 + random.nextInt(2 + busy);
            int p = random.nextInt(7);
            int stand = random.nextInt(3);
            same("mark", x.mark(b, p, stand), y.mark(b, p, stand));
        }
    }

    private void same(String call, int got, int want) {
        check.due("run " + run + ": " + call, got, want);
    }

    /** From low to high, now and then far off. */
    private int any(int low, int high) {
        if (random.nextInt(80) == 0) {
            return ODD[random.nextInt(ODD.length)];
        }
        return low + random.nextInt(high - low + 1);
    }

    private int beat() {
        return random.nextInt(4) == 0 ? any(0, 11) : any(0, 3 + busy);
    }

    private int diagram() {
        return random.nextInt(3) == 0 ? 1093 : any(0, 2186);
    }

    private void call() {
        int pick = random.nextInt(100);
        if (pick < 40) {
            change(pick);
        } else if (pick < 70) {
            askWay(pick - 40);
        } else if (pick < 86) {
            askPart(pick - 70);
        } else {
            sheets(pick - 86);
        }
    }

    private void change(int pick) {
        int b = beat();
        int p = any(0, 6);
        int stand = any(-1, 2);
        if (pick < 14) {
            int kind = random.nextInt(2) == 0 ? 0 : any(0, 3);
            int pitch = pitchFor(kind);
            boolean rings = random.nextInt(3) == 0;
            same("note", x.note(b, kind, pitch, rings), y.note(b, kind, pitch, rings));
        } else if (pick < 21) {
            same("drop", x.drop(b), y.drop(b));
        } else if (pick < 28) {
            same("mark", x.mark(b, p, stand), y.mark(b, p, stand));
        } else if (pick < 33) {
            same("start", x.start(p, stand), y.start(p, stand));
        } else if (pick < 35) {
            int by = any(-12, 12);
            same("shift", x.shift(by), y.shift(by));
        } else if (pick < 37) {
            int n = random.nextInt(3) == 0 ? any(1, 12) : any(1, 3 + busy);
            same("beats", x.beats(n), y.beats(n));
        } else {
            same("undo", x.undo(), y.undo());
        }
    }

    private int pitchFor(int kind) {
        int above = kind == 1 ? 12 : kind == 3 ? 19 : 0;
        switch (random.nextInt(8)) {
            case 0:
                return any(-1, 100);
            case 1, 2:
                return 20 + random.nextInt(40);
            default:
                return 12 * random.nextInt(6) + WHITE[random.nextInt(7)] + above;
        }
    }

    private void askWay(int pick) {
        int b = beat();
        int p = any(0, 6);
        boolean right = random.nextBoolean();
        if (pick < 4) {
            same("moves", x.moves(), y.moves());
        } else if (pick < 9) {
            same("diagram", x.diagram(b), y.diagram(b));
        } else if (pick < 12) {
            same("stand", x.stand(b, p), y.stand(b, p));
        } else if (pick < 16) {
            same("foot", x.foot(b, right), y.foot(b, right));
        } else if (pick < 19) {
            same("ways", x.ways(), y.ways());
        } else if (pick < 22) {
            same("stuck", x.stuck(), y.stuck());
        } else if (pick < 28) {
            same("without", x.without(b, p), y.without(b, p));
        } else {
            same("hard", x.hard(), y.hard());
        }
    }

    private void askPart(int pick) {
        int b = beat();
        int d = diagram();
        int from = any(0, 41);
        int to = any(0, 41);
        int i = any(0, 2);
        switch (pick) {
            case 0, 1 -> same("as", x.as(b, i, d % 5), y.as(b, i, d % 5));
            case 2, 3 -> same("of", x.of(b, i, d % 4), y.of(b, i, d % 4));
            case 4 -> same("pitch", x.pitch(from, d), y.pitch(from, d));
            case 5, 6 -> same("string", x.string(b, i, d), y.string(b, i, d));
            case 7, 8 -> same("does", x.does(b, d), y.does(b, d));
            case 9 -> same("many", x.many(b), y.many(b));
            case 10, 11, 12 -> same("split", x.split(b, d), y.split(b, d));
            case 13 -> same("run", x.run(from, to, d, i * 9), y.run(from, to, d, i * 9));
            case 14 -> same("plain", x.plain(from, to, d), y.plain(from, to, d));
            default -> same("all", x.all(d % 5), y.all(d % 5));
        }
    }

    private void sheets(int pick) {
        int s = any(0, 3);
        int t = any(0, 3);
        int i = any(0, 8);
        int j = any(0, 8);
        int n = any(0, 6);
        int v = random.nextInt(3) == 0 ? random.nextInt() : any(-3, 80);
        int bits = any(0, 4) * 8;
        int size = random.nextInt(4) == 0 ? any(-1, 31) : any(0, 12);
        switch (pick) {
            case 0, 1 -> same("sheet", x.sheet(s, bits, size), y.sheet(s, bits, size));
            case 2, 3, 4, 5, 6 -> same("put", x.put(s, i, v), y.put(s, i, v));
            case 7, 8, 9, 10 -> same("copy", x.copy(s, i, t, j, n), y.copy(s, i, t, j, n));
            default -> same("tune", x.tune(s), y.tune(s));
        }
    }
}
