/** Promises 10 to 13: diagrams. 1093 has every pedal at stand 1. */
public final class DiagramTest {
    private static final Check check = new Check();

    public static void main(String[] args) {
        pitch();
        string();
        does();
        many();
        check.end();
    }

    private static void pitch() {
        SevenPedals x = new SevenPedals();
        int[] naturals = {0, 2, 4, 5, 7, 9, 11};
        for (int s = 0; s < 42; s++) {
            int natural = 12 * (s / 7) + naturals[s % 7];
            check.due("10 stand 0", x.pitch(s, 0), natural - 1);
            check.due("10 stand 1", x.pitch(s, 1093), natural);
            check.due("10 stand 2", x.pitch(s, 2186), natural + 1);
        }
        check.due("10 pedal 6 alone is up", x.pitch(6, 1093 + 729), 12);
        check.due("10 its neighbour is not", x.pitch(5, 1093 + 729), 9);
        check.due("10 pedal 1 alone is down", x.pitch(8, 1093 - 3), 13);
        check.due("10 string 42", x.pitch(42, 0), Check.BEYOND);
        check.due("10 string -1", x.pitch(-1, 0), Check.BEYOND);
        check.due("10 diagram 2187", x.pitch(0, 2187), Check.BEYOND);
        check.due("10 diagram -1", x.pitch(0, -1), Check.BEYOND);
    }

    private static void string() {
        SevenPedals x = new SevenPedals();
        x.note(0, 0, 12, false);
        check.due("11 on C", x.string(0, 0, 1093), 7);
        check.due("11 on the lesser of B sharp and C", x.string(0, 0, 1093 + 729), 6);
        check.due("11 on B sharp alone", x.string(0, 0, 1093 + 729 - 1), 6);
        check.due("11 NONE", x.string(0, 0, 1093 - 1), Check.NONE);
        x.note(0, 1, 12, false);
        check.due("11 a harmonic", x.string(0, 1, 1093), 0);
        x.note(0, 3, 19, false);
        check.due("11 a high one", x.string(0, 2, 1093), 0);
        x.note(0, 2, 72, false);
        check.due("11 the topmost", x.string(0, 3, 2186), 41);
        check.due("11 NONE", x.string(0, 3, 1093), Check.NONE);
        x.note(1, 0, 73, false);
        check.due("11 above all strings", x.string(1, 0, 2186), Check.NONE);
        x.note(1, 0, -1, false);
        check.due("11 the lowest", x.string(1, 1, 0), 0);
        x.note(1, 1, 10, false);
        check.due("11 a harmonic below all strings", x.string(1, 2, 0), Check.NONE);
        x.note(1, 3, 91, false);
        check.due("11 a high one on the topmost", x.string(1, 3, 2186), 41);
        check.due("11 note 4", x.string(0, 4, 0), Check.BEYOND);
        check.due("11 note -1", x.string(0, -1, 0), Check.BEYOND);
        check.due("11 beat 12", x.string(12, 0, 0), Check.BEYOND);
        check.due("11 beat -1", x.string(-1, 0, 0), Check.BEYOND);
        check.due("11 diagram 2187", x.string(0, 0, 2187), Check.BEYOND);
        check.due("11 diagram -1", x.string(0, 0, -1), Check.BEYOND);
    }

    private static void does() {
        SevenPedals x = new SevenPedals();
        check.due("12 an empty beat", x.does(11, 0), 1);
        x.note(0, 0, 24, false);
        check.due("12 playable", x.does(0, 1093), 1);
        x.note(0, 1, 36, false);
        check.due("12 two on one string", x.does(0, 1093), 0);
        check.due("12 two on one string, B sharp", x.does(0, 1093 + 729), 0);
        x.drop(0);
        x.note(0, 0, 25, false);
        check.due("12 not playable", x.does(0, 1093), 0);
        check.due("12 with D flat", x.does(0, 1093 - 3), 1);
        x.mark(0, 2, 1);
        check.due("12 mark kept", x.does(0, 1093 - 3), 1);
        x.mark(0, 2, 0);
        check.due("12 mark not kept", x.does(0, 1093 - 3), 0);
        x.mark(0, 2, -1);
        check.due("12 mark gone", x.does(0, 1093 - 3), 1);
        check.due("12 beat 12", x.does(12, 0), Check.BEYOND);
        check.due("12 beat -1", x.does(-1, 0), Check.BEYOND);
        check.due("12 diagram 2187", x.does(0, 2187), Check.BEYOND);
        check.due("12 diagram -1", x.does(0, -1), Check.BEYOND);
    }

    private static void many() {
        SevenPedals x = new SevenPedals();
        check.due("13 all do", x.many(11), 2187);
        x.mark(11, 0, 1);
        check.due("13 a third", x.many(11), 729);
        x.note(0, 0, 26, false);
        check.due("13 D has one string", x.many(0), 729);
        x.note(0, 0, 24, false);
        check.due("13 C has two", x.many(0), 729 * 5 / 9);
        x.note(0, 0, 24, false);
        check.due("13 twice the same", x.many(0), 0);
        check.due("13 beat 12", x.many(12), Check.BEYOND);
        check.due("13 beat -1", x.many(-1), Check.BEYOND);
    }
}
