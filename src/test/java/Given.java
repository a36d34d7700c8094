/** What several tests begin with, and numbers that are beyond a limit of the document. */
final class Given {
    private static final int MIN = Integer.MIN_VALUE;
    private static final int MAX = Integer.MAX_VALUE;
    static final int[] NO_BEATS = {MIN, -1, 12, 13, MAX};
    static final int[] NO_KINDS = {MIN, -1, 4, 5, MAX};
    static final int[] NO_PITCHES = {MIN, -2, 101, 102, MAX};
    static final int[] NO_PEDALS = {MIN, -1, 7, 8, MAX};
    static final int[] NO_STANDS = {MIN, -2, 3, 4, MAX};
    static final int[] NO_STRINGS = {MIN, -1, 42, 43, MAX};
    static final int[] NO_DIAGRAMS = {MIN, -1, 2187, 2188, MAX};
    static final int[] NO_SHEETS = {MIN, -1, 4, 5, MAX};
    /** A pitch above those of all strings. */
    static final int TOO_HIGH = 73;

    private static final int[] WHITE = {0, 2, 4, 5, 7, 9, 11};

    private Given() { }

    /** All pedals are told to stand so ahead of beat 0. */
    static SevenPedals started(int stand) {
        SevenPedals x = new SevenPedals();
        for (int p = 0; p < 7; p++) {
            x.start(p, stand);
        }
        return x;
    }

    /** The pitch of a string with its pedal at stand 1. */
    static int natural(int string) {
        return 12 * (string / 7) + WHITE[string % 7];
    }

    /** At beat 0 a plain note on each of the strings, by the diagram that has every pedal at stand 1. */
    static SevenPedals chord(int... strings) {
        SevenPedals x = new SevenPedals();
        for (int s : strings) {
            x.note(0, 0, natural(s), false);
        }
        return x;
    }
}
