/** Promises 21 to 24: hands, runs. 1093 has every pedal at stand 1. */
public final class HandTest {
    private static final Check check = new Check();

    public static void main(String[] args) {
        splitByFingers();
        splitBySpan();
        splitFindings();
        hard();
        run();
        plain();
        check.end();
    }

    private static void splitByFingers() {
        check.due("21 no string", Given.chord().split(0, 1093), 0);
        check.due("21 four for the right", Given.chord(10, 11, 12, 13).split(0, 1093), 0);
        check.due("21 five", Given.chord(10, 11, 12, 13, 14).split(0, 1093), 1);
        check.due("21 six", Given.chord(10, 11, 12, 13, 14, 15).split(0, 1093), 2);
        check.due("21 six in another order", Given.chord(15, 10, 13, 11, 14, 12).split(0, 1093), 2);
        SevenPedals x = Given.chord(10, 11);
        x.note(0, 1, Given.natural(12) + 12, false);
        check.due("21 a harmonic takes two", x.split(0, 1093), 0);
        x.note(0, 2, Given.natural(13), false);
        check.due("21 a muted one takes one", x.split(0, 1093), 1);
        x = Given.chord();
        for (int s = 10; s < 14; s++) {
            x.note(0, 3, Given.natural(s) + 19, false);
        }
        check.due("21 four high ones, two a hand", x.split(0, 1093), 2);
        x.note(0, 0, Given.natural(14), false);
        check.due("21 nine fingers", x.split(0, 1093), Check.NONE);
        x = Given.chord(14);
        for (int s = 10; s < 13; s++) {
            x.note(0, 1, Given.natural(s) + 12, false);
        }
        check.due("21 fingers go with their strings", x.split(0, 1093), 2);
        x = Given.chord(9, 10, 11);
        x.note(0, 1, Given.natural(12) + 12, false);
        x.note(0, 1, Given.natural(13) + 12, false);
        check.due("21 three and two harmonics", x.split(0, 1093), 3);
    }

    private static void splitBySpan() {
        check.due("21 a span of 9", Given.chord(10, 19).split(0, 1093), 0);
        check.due("21 a span of 10", Given.chord(10, 20).split(0, 1093), 1);
        check.due("21 both hands wide", Given.chord(0, 9, 10, 19).split(0, 1093), 2);
        check.due("21 no hand reaches", Given.chord(0, 10, 20).split(0, 1093), Check.NONE);
        check.due("21 the left hand, too", Given.chord(0, 10, 11, 12, 13, 14).split(0, 1093), Check.NONE);
        check.due("21 the left hand takes more", Given.chord(0, 9, 18, 27).split(0, 1093), 2);
        check.due("21 far up", Given.chord(41, 32, 31).split(0, 1093), 1);
    }

    private static void splitFindings() {
        SevenPedals x = Given.chord(0);
        check.due("21 KIND", x.split(0, 0), Check.KIND);
        check.due("21 beat 12", x.split(12, 0), Check.BEYOND);
        check.due("21 beat -1", x.split(-1, 0), Check.BEYOND);
        check.due("21 diagram 2187", x.split(0, 2187), Check.BEYOND);
        check.due("21 diagram -1", x.split(0, -1), Check.BEYOND);
        check.due("21 a beat that is not played", x.split(11, 0), 0);
        x.mark(11, 0, 2);
        check.due("21 KIND by a mark", x.split(11, 0), Check.KIND);
    }

    private static void hard() {
        SevenPedals x = new SevenPedals();
        check.due("22 none", x.hard(), -1);
        check.due("22 -1 is no finding", x.all(3), 0);
        // D and G sound on one string alone, whatever the diagram
        x.note(5, 0, Given.natural(1), false);
        x.note(5, 0, Given.natural(11), false);
        x.note(5, 0, Given.natural(22), false);
        check.due("22 at beat 5", x.hard(), 5);
        x.note(3, 0, Given.natural(1), false);
        x.note(3, 0, Given.natural(11), false);
        check.due("22 two hands are enough", x.hard(), 5);
        x.note(3, 0, Given.natural(22), false);
        check.due("22 the first of two", x.hard(), 3);
        x.beats(3);
        check.due("22 only beats that are played", x.hard(), -1);
        x.note(0, 0, Given.natural(1), false);
        x.note(0, 0, Given.natural(11), false);
        x.note(0, 0, Given.natural(22), false);
        check.due("22 at beat 0", x.hard(), 0);
        x.note(0, 0, 100, false);
        check.due("22 NONE", x.hard(), Check.NONE);
    }

    private static void run() {
        SevenPedals x = new SevenPedals();
        for (int i = 0; i < 42; i++) {
            check.due("23 up", x.run(0, 41, 1093, i), Given.natural(i));
            check.due("23 down", x.run(41, 0, 2186, i), Given.natural(41 - i) + 1);
        }
        check.due("23 one string", x.run(7, 7, 1093, 0), 12);
        check.due("23 no second", x.run(7, 7, 1093, 1), Check.BEYOND);
        check.due("23 place 42", x.run(0, 41, 1093, 42), Check.BEYOND);
        check.due("23 place -1", x.run(0, 41, 1093, -1), Check.BEYOND);
        check.due("23 place max", x.run(41, 0, 1093, Integer.MAX_VALUE), Check.BEYOND);
        check.due("23 from -1", x.run(-1, 5, 1093, 0), Check.BEYOND);
        check.due("23 from 42", x.run(42, 5, 1093, 0), Check.BEYOND);
        check.due("23 to -1", x.run(5, -1, 1093, 0), Check.BEYOND);
        check.due("23 to 42", x.run(5, 42, 1093, 0), Check.BEYOND);
        check.due("23 diagram 2187", x.run(0, 1, 2187, 0), Check.BEYOND);
        check.due("23 diagram -1", x.run(0, 1, -1, 0), Check.BEYOND);
    }

    private static void plain() {
        SevenPedals x = new SevenPedals();
        check.due("24 all", x.plain(0, 41, 1093), 42);
        check.due("24 one", x.plain(5, 5, 1093), 1);
        int enharmonic = 1093 + 9 - 27;
        check.due("24 E sharp above F flat: none alike", x.plain(0, 6, enharmonic), 7);
        check.due("24 E and F flat", x.plain(2, 3, 1093 - 27), 1);
        check.due("24 E sharp and F, down", x.plain(3, 2, 1093 + 9), 1);
        check.due("24 C sharp and D flat", x.plain(0, 1, 1093 + 1 - 3), 1);
        check.due("24 B sharp and C above", x.plain(6, 7, 1093 + 729), 1);
        check.due("24 B sharp and C below", x.plain(0, 6, 1093 + 729), 7);
        int diminished = 1 + 3 * 0 + 9 * 0 + 27 * 2 + 81 * 0 + 243 * 1 + 729 * 2;
        check.due("24 a glissando of few", x.plain(0, 6, diminished), 6);
        check.due("24 two octaves of it", x.plain(13, 0, diminished), 11);
        check.due("24 string 42", x.plain(0, 42, 0), Check.BEYOND);
        check.due("24 string -1", x.plain(-1, 0, 0), Check.BEYOND);
        check.due("24 diagram 2187", x.plain(0, 0, 2187), Check.BEYOND);
        check.due("24 diagram -1", x.plain(0, 0, -1), Check.BEYOND);
    }
}
