/** Promises 10 to 14: faults, greens, boughs, deaths, marks. */
public final class GreensTest {
    private static final Check C = new Check();
    private static final int NOTHING = 1, UNLIKE = 3;

    public static void main(String[] args) {
        faults();
        greens();
        boughs();
        deaths();
        marks();
        C.end();
    }

    private static void fault(String text, int want) {
        LimeDeaths x = new LimeDeaths();
        Check.write(x, 1, text);
        C.due("fault of '" + text + "'", x.fault(1), want);
        if (want == LimeDeaths.NONE) {
            C.due("green of '" + text + "'", x.green(1) > 0 ? 1 : 0, 1);
        } else {
            C.refuses("green of '" + text + "'", x, () -> x.green(1), LimeDeaths.STATE);
        }
    }

    private static void faults() {
        fault("t01234567d00", LimeDeaths.NONE);
        fault("  t01234567   d00   k79  ", LimeDeaths.NONE);
        fault("t99999999g09s19k29f39b49d59", LimeDeaths.NONE);
        fault("", 0);
        fault("    ", 4);
        fault("t", 1);
        fault("t0123456", 8);
        fault("t01234567", 9);
        fault("t01234567  ", 11);
        fault("T01234567d00", 0);
        fault("  x", 2);
        fault("t 01234567d00", 1);
        fault("t0123456 d00", 8);
        fault("t0123456:d00", 8);
        fault("t0123456/d00", 8);
        fault("t012345678d00", 9);
        fault("t01234567t00", 9);
        fault("t01234567d80", 10);
        fault("t01234567d7", 11);
        fault("t01234567d", 10);
        fault("t01234567d 70", 10);
        fault("t01234567d7 0", 11);
        fault("t01234567d7:", 11);
        fault("t01234567d700", 12);
        fault("t01234567d00d00d00d00d00d00", LimeDeaths.NONE);
        fault("t01234567d00d00d00d00d00d00   ", LimeDeaths.NONE);
        fault("t01234567d00d00d00d00d00d00 d00", 28);
        fault("t01234567d00d00d00d00d00d00x", 27);
        fault("t01234567d00d00d00d00d00d", 25);
        // at the end of the longest texts
        String blanks = " ".repeat(60);
        fault(blanks, 60);
        fault(blanks.substring(1) + "t", 60);
        fault(blanks.substring(5) + "t9876", 60);
        fault(blanks.substring(9) + "t01234567", 60);
        fault(blanks.substring(10) + "t01234567d", 60);
        fault(blanks.substring(11) + "t01234567d7", 60);
        fault(blanks.substring(12) + "t01234567d79", LimeDeaths.NONE);
        LimeDeaths x = new LimeDeaths();
        C.finds("fault of missing", x, () -> x.fault(0), NOTHING);
        C.refuses("fault(4)", x, () -> x.fault(4), LimeDeaths.BAD);
        C.refuses("fault(-1)", x, () -> x.fault(-1), LimeDeaths.BAD);
    }

    private static void greens() {
        LimeDeaths x = Check.green("t57301946 d05g17f00b23s14k39");
        x.tell(0);
        x.morning();
        x.keep(2);
        Check.write(x, 2, "t00000001k79");
        C.due("green anew", x.green(2), 1);
        C.due("no deeds", x.count(3), 0);
        C.due("morning 0", x.count(2), 0);
        C.due("nothing told", x.count(4), 0);
        C.due("nothing kept", x.count(11), 0);
        C.due("leaves", x.count(1), 1);
        C.finds("green of missing", x, () -> x.green(3), NOTHING);
        C.refuses("green(4)", x, () -> x.green(4), LimeDeaths.BAD);
        Check.write(x, 3, "t0000000");
        C.refuses("green of a fault", x, () -> x.green(3), LimeDeaths.STATE);
        x.put(2, 0, 32);
        C.due("a green is its own", x.count(8), 1);
    }

    private static void bough(LimeDeaths x, int b, int leaves, int deaths, int haunting) {
        int[] wants = {leaves, deaths, haunting};
        for (int what = 0; what < 3; what++) {
            C.due("bough(" + b + ", " + what + ")", x.bough(b, what), 1);
            C.due("bough(" + b + ", " + what + ") told", x.asked(), wants[what]);
        }
    }

    private static void boughs() {
        LimeDeaths x = Check.green("t57301946d05 g17 f00 b23 s14 k39");
        bough(x, 0, 5, 5, 1);
        bough(x, 1, 7, 18, 2);
        bough(x, 2, 3, 8, 0);
        bough(x, 3, 0, 32, 2);
        bough(x, 7, 6, 0, 0);
        x.tell(4);
        bough(x, 1, 9, 18, 1);
        LimeDeaths y = Check.green("t00000000k79k70g70s70d70d70");
        bough(y, 7, 0, 63, 8);
        C.refuses("bough(8, 0)", x, () -> x.bough(8, 0), LimeDeaths.BAD);
        C.refuses("bough(-1, 0)", x, () -> x.bough(-1, 0), LimeDeaths.BAD);
        C.refuses("bough(0, 3)", x, () -> x.bough(0, 3), LimeDeaths.BAD);
        C.refuses("bough(0, -1)", x, () -> x.bough(0, -1), LimeDeaths.BAD);
        LimeDeaths none = new LimeDeaths();
        C.refuses("bough without deaths", none, () -> none.bough(0, 0), LimeDeaths.STATE);
        C.refuses("bough bad without deaths", none, () -> none.bough(8, 0), LimeDeaths.BAD);
    }

    private static void death(LimeDeaths x, int i, int... wants) {
        for (int what = 0; what < 6; what++) {
            C.due("death(" + i + ", " + what + ")", x.death(i, what), 1);
            C.due("death(" + i + ", " + what + ") told", x.asked(), wants[what]);
        }
    }

    private static void deaths() {
        LimeDeaths x = Check.green("t57301946d05g17f00b23s14k39");
        death(x, 0, 0, 0, 5, 0, 1, 4);
        death(x, 1, 1, 1, 7, 0, 1, 9);
        death(x, 2, 2, 0, 0, 0, 1, 2);
        death(x, 3, 3, 2, 3, 0, 1, 0);
        death(x, 4, 4, 1, 4, 0, 1, 9);
        death(x, 5, 5, 3, 9, 0, 0, 6);
        for (int i = 0; i < 5; i++) {
            x.tell(i);
        }
        death(x, 2, 2, 0, 0, 1, 0, 1);
        death(x, 5, 5, 3, 9, 0, 1, 6);
        C.refuses("death(6, 0)", x, () -> x.death(6, 0), LimeDeaths.BAD);
        C.refuses("death(-1, 0)", x, () -> x.death(-1, 0), LimeDeaths.BAD);
        C.refuses("death(0, 6)", x, () -> x.death(0, 6), LimeDeaths.BAD);
        C.refuses("death(0, -1)", x, () -> x.death(0, -1), LimeDeaths.BAD);
        LimeDeaths none = new LimeDeaths();
        C.refuses("death without deaths", none, () -> none.death(0, 0), LimeDeaths.BAD);
    }

    private static void marks() {
        LimeDeaths x = Check.green("t57301946d05g17f00b23s14k39");
        C.due("mark good", x.mark(1, 1), 6);
        C.due("mark soldier as good", x.mark(4, 1), 6);
        C.due("mark king as good", x.mark(5, 1), 3);
        C.due("mark false", x.mark(2, 2), 3);
        C.due("mark beast", x.mark(3, 3), 32);
        C.due("mark soldier", x.mark(4, 4), 3);
        C.due("mark king", x.mark(5, 5), 5);
        x.tell(1);
        x.tell(4);
        C.due("mark soldier told", x.mark(4, 4), 1);
        C.due("mark king, two told", x.mark(5, 5), 3);
        LimeDeaths y = Check.green("t00000000g00g01s00k00k01k09");
        C.due("mark good of nought", y.mark(0, 1), 9);
        C.due("mark good of one", y.mark(1, 1), 8);
        C.due("mark soldier of nought", y.mark(2, 1), 8);
        C.due("mark king of nought", y.mark(3, 1), 9);
        C.due("mark king of one", y.mark(4, 1), 7);
        C.due("mark king of nine", y.mark(5, 1), 3);
        C.due("mark kings left", y.mark(5, 5), 3);
        C.finds("mark(0, 1)", x, () -> x.mark(0, 1), UNLIKE);
        C.finds("mark(1, 4)", x, () -> x.mark(1, 4), UNLIKE);
        C.finds("mark(4, 5)", x, () -> x.mark(4, 5), UNLIKE);
        C.finds("mark(5, 4)", x, () -> x.mark(5, 4), UNLIKE);
        C.finds("mark(3, 2)", x, () -> x.mark(3, 2), UNLIKE);
        C.refuses("mark(0, 0)", x, () -> x.mark(0, 0), LimeDeaths.BAD);
        C.refuses("mark(0, 6)", x, () -> x.mark(0, 6), LimeDeaths.BAD);
        C.refuses("mark(0, -1)", x, () -> x.mark(0, -1), LimeDeaths.BAD);
        C.refuses("mark(6, 1)", x, () -> x.mark(6, 1), LimeDeaths.BAD);
        C.refuses("mark(-1, 1)", x, () -> x.mark(-1, 1), LimeDeaths.BAD);
    }
}
