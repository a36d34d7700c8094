/** Promises 25 to 28: sheets. Numbers of a sheet are seen by the notes that tune makes of them. */
public final class SheetTest {
    private static final Check check = new Check();

    public static void main(String[] args) {
        sheet();
        put();
        copy();
        copyWithinOneSheet();
        tune();
        check.end();
    }

    private static int number(SevenPedals x, int s, int i) {
        x.tune(s);
        return x.of(i, 0, 1);
    }

    private static void sheet() {
        SevenPedals x = new SevenPedals();
        check.due("25 8 bits", x.sheet(0, 8, 30), 30);
        check.due("25 16 bits", x.sheet(1, 16, 0), 0);
        check.due("25 32 bits", x.sheet(3, 32, 12), 12);
        check.due("25 all 0", x.tune(3), 12);
        check.due("25 all 0", x.of(11, 0, 1), 0);
        x.put(3, 2, 7);
        check.due("25 anew", x.sheet(3, 32, 3), 3);
        check.due("25 all 0 again", number(x, 3, 2), 0);
        check.due("25 missing", x.sheet(3, 0, 0), 0);
        check.due("25 it is", x.put(3, 0, 0), Check.MISSING);
        check.due("25 missing, with a number", x.sheet(0, 0, 5), 0);
        check.due("25 it is", x.tune(0), Check.MISSING);
        check.due("25 sheet 4", x.sheet(4, 8, 1), Check.BEYOND);
        check.due("25 sheet -1", x.sheet(-1, 8, 1), Check.BEYOND);
        check.due("25 bits 24", x.sheet(0, 24, 1), Check.BEYOND);
        check.due("25 bits -8", x.sheet(0, -8, 1), Check.BEYOND);
        check.due("25 bits 64", x.sheet(0, 64, 1), Check.BEYOND);
        check.due("25 BEYOND ahead of SIZE", x.sheet(0, 7, -1), Check.BEYOND);
        check.due("25 SIZE", x.sheet(0, 8, -1), Check.SIZE);
        check.due("25 n above 30", x.sheet(0, 8, 31), Check.BEYOND);
        check.due("25 n max", x.sheet(0, 8, Integer.MAX_VALUE), Check.BEYOND);
        check.due("25 findings change nothing", x.put(0, 0, 0), Check.MISSING);
    }

    private static void put() {
        SevenPedals x = new SevenPedals();
        x.sheet(0, 8, 2);
        x.sheet(1, 16, 2);
        x.sheet(2, 32, 2);
        check.due("26 put", x.put(0, 1, 256 + 50), 0);
        check.due("26 the lowest 8 bits", number(x, 0, 1), 50);
        x.put(0, 1, 255);
        check.due("26 8 bits with a sign", number(x, 0, 1), -1);
        x.put(0, 1, 128);
        check.due("26 below -1", x.tune(0), 1);
        x.put(1, 1, 0x50000 + 60);
        check.due("26 the lowest 16 bits", number(x, 1, 1), 60);
        x.put(1, 1, 0xffff);
        check.due("26 16 bits with a sign", number(x, 1, 1), -1);
        x.put(1, 1, 256);
        check.due("26 16 bits hold it", x.tune(1), Check.BEYOND);
        x.put(2, 1, 0x10000);
        check.due("26 32 bits hold it", x.tune(2), Check.BEYOND);
        x.put(2, 1, Integer.MIN_VALUE);
        check.due("26 32 bits", x.tune(2), 1);
        check.due("26 sheet 4", x.put(4, 0, 0), Check.BEYOND);
        check.due("26 sheet -1", x.put(-1, 0, 0), Check.BEYOND);
        check.due("26 MISSING ahead of the number", x.put(3, -1, 0), Check.MISSING);
        check.due("26 number 2", x.put(0, 2, 0), Check.BEYOND);
        check.due("26 number -1", x.put(0, -1, 0), Check.BEYOND);
    }

    private static void copy() {
        SevenPedals x = new SevenPedals();
        x.sheet(0, 8, 4);
        x.sheet(1, 8, 3);
        x.sheet(2, 16, 4);
        for (int i = 0; i < 4; i++) {
            x.put(0, i, 10 + i);
        }
        check.due("27 copy", x.copy(0, 2, 1, 1, 2), 2);
        check.due("27 not ahead", number(x, 1, 0), 0);
        check.due("27 come", number(x, 1, 1), 12);
        check.due("27 come", number(x, 1, 2), 13);
        check.due("27 none at the end", x.copy(0, 4, 1, 3, 0), 0);
        check.due("27 sheet 4", x.copy(4, 0, 0, 0, 0), Check.BEYOND);
        check.due("27 sheet -1", x.copy(0, 0, -1, 0, 0), Check.BEYOND);
        check.due("27 BEYOND ahead of MISSING", x.copy(3, 0, 4, 0, 0), Check.BEYOND);
        check.due("27 MISSING", x.copy(0, 0, 3, 0, 0), Check.MISSING);
        check.due("27 MISSING", x.copy(3, 0, 0, 0, 0), Check.MISSING);
        check.due("27 MISSING ahead of numbers", x.copy(3, -1, 0, 0, 0), Check.MISSING);
        check.due("27 KIND", x.copy(0, 0, 2, 0, 1), Check.KIND);
        check.due("27 KIND ahead of numbers", x.copy(0, -1, 2, 0, 1), Check.KIND);
        check.due("27 the first has not so many", x.copy(0, 3, 1, 0, 2), Check.BEYOND);
        check.due("27 the other has not so many", x.copy(0, 0, 1, 2, 2), Check.BEYOND);
        check.due("27 from behind the end", x.copy(0, 5, 1, 0, 0), Check.BEYOND);
        check.due("27 to behind the end", x.copy(0, 0, 1, 4, 0), Check.BEYOND);
        check.due("27 from -1", x.copy(0, -1, 1, 0, 1), Check.BEYOND);
        check.due("27 to -1", x.copy(0, 0, 1, -1, 1), Check.BEYOND);
        check.due("27 n -1", x.copy(0, 1, 1, 1, -1), Check.BEYOND);
        int max = Integer.MAX_VALUE;
        check.due("27 n max", x.copy(0, 1, 1, 1, max), Check.BEYOND);
        check.due("27 from max", x.copy(0, max, 1, 0, max), Check.BEYOND);
        check.due("27 all min", x.copy(0, Integer.MIN_VALUE, 1, 0, Integer.MIN_VALUE), Check.BEYOND);
        check.due("27 findings change nothing", number(x, 1, 1), 12);
    }

    private static void copyWithinOneSheet() {
        SevenPedals x = new SevenPedals();
        x.sheet(0, 8, 4);
        for (int i = 0; i < 4; i++) {
            x.put(0, i, 10 + i);
        }
        check.due("27 up", x.copy(0, 0, 0, 1, 3), 3);
        check.due("27 as they were", number(x, 0, 1), 10);
        check.due("27 as they were", number(x, 0, 2), 11);
        check.due("27 as they were", number(x, 0, 3), 12);
        check.due("27 down", x.copy(0, 1, 0, 0, 3), 3);
        check.due("27 as they were", number(x, 0, 0), 10);
        check.due("27 as they were", number(x, 0, 1), 11);
        check.due("27 as they were", number(x, 0, 2), 12);
        check.due("27 the last stays", number(x, 0, 3), 12);
    }

    private static void tune() {
        SevenPedals x = new SevenPedals();
        x.note(0, 1, 50, true);
        x.note(0, 3, 50, true);
        x.note(1, 1, 50, true);
        x.note(3, 1, 50, true);
        x.mark(0, 0, 1);
        x.sheet(0, 16, 3);
        x.put(0, 0, -1);
        x.put(0, 1, -2);
        x.put(0, 2, 100);
        check.due("28 tune", x.tune(0), 2);
        check.due("28 plain", x.of(0, 0, 0), 0);
        check.due("28 pitch -1", x.of(0, 0, 1), -1);
        check.due("28 rings not", x.of(0, 0, 2), 0);
        check.due("28 what was there goes", x.of(0, 1, 0), Check.BEYOND);
        check.due("28 no note", x.of(1, 0, 0), Check.BEYOND);
        check.due("28 pitch 100", x.of(2, 0, 1), 100);
        check.due("28 beats beyond keep theirs", x.of(3, 0, 0), 1);
        check.due("28 marks stay", x.all(2), 1);
        x.put(0, 2, 101);
        check.due("28 BEYOND", x.tune(0), Check.BEYOND);
        check.due("28 a finding changes nothing", x.of(2, 0, 1), 100);
        check.due("28 sheet 4", x.tune(4), Check.BEYOND);
        check.due("28 sheet -1", x.tune(-1), Check.BEYOND);
        check.due("28 MISSING", x.tune(1), Check.MISSING);
        x.put(0, 0, 101);
        x.put(0, 2, 0);
        check.due("28 BEYOND, the first", x.tune(0), Check.BEYOND);
        x.sheet(1, 32, 13);
        x.put(1, 0, 101);
        check.due("28 SIZE ahead of BEYOND", x.tune(1), Check.SIZE);
        x.sheet(1, 32, 12);
        check.due("28 twelve", x.tune(1), 12);
        check.due("28 twelve", x.all(1), 12);
        x.sheet(1, 32, 0);
        check.due("28 an empty sheet", x.tune(1), 0);
        check.due("28 beats keep theirs", x.all(1), 12);
    }
}
