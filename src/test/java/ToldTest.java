/** Promises 38 to 44: what is told. */
public final class ToldTest {
    private static final Check C = new Check();
    private static final String SIX = "t57301946 d05g17f00b23s14k39";

    public static void main(String[] args) {
        constants();
        asked();
        ratios();
        counts();
        findings();
        digests();
        C.end();
    }

    private static void constants() {
        int[] got = {LimeDeaths.BAD, LimeDeaths.FULL, LimeDeaths.FINDING, LimeDeaths.STATE, LimeDeaths.SPENT,
            LimeDeaths.NONE};
        int[] want = {-1, -2, -3, -4, -6, -9};
        for (int k = 0; k < want.length; k++) {
            C.due("constant " + k, got[k], want[k]);
        }
    }

    /** Calls that tell nothing by asked() leave it. */
    private static void asked() {
        LimeDeaths x = Check.green(SIX);
        Check.lay(x, 0, 77);
        x.at(0, 0);
        x.odds(0, 5, 5);
        x.mid(5);
        x.round(3, 1);
        x.plan(0, 5, 1);
        x.answers(0, 0, 0);
        x.mark(1, 1);
        x.bare(0);
        x.row(2, 0);
        x.worths(0, 2);
        x.kinds(0, 2);
        x.morning();
        x.tell(0);
        x.water(3, 1);
        x.prune(4);
        x.lots(1, 5);
        x.keep(0);
        x.undo(0);
        x.on(0);
        x.count(1);
        x.green(0);
        x.copy(0, 0, 0, 0, 1);
        x.tear(2);
        C.due("asked() stays", x.asked(), 77);
    }

    private static void ratios() {
        LimeDeaths x = Check.green(SIX);
        x.odds(1, 9, 4);
        x.surely(12);
        Check.lay(x, 0, 6);
        x.sure(1, 0);
        x.next(1, 0);
        x.leaves(3);
        x.duel(2);
        x.green(0);
        C.due("upper() stays", x.upper(), 5);
        C.due("lower() stays", x.lower(), 9);
        x.about(1, 0);
        C.due("upper() of about", x.upper(), 32);
        C.due("lower() of about", x.lower(), 1);
    }

    private static void counts(LimeDeaths x, int... wants) {
        for (int what = 0; what < wants.length; what++) {
            C.due("count(" + what + ")", x.count(what), wants[what]);
        }
    }

    private static void counts() {
        LimeDeaths x = Check.green(SIX);
        counts(x, 6, 35, 0, 0, 0, 31, 8, 3, 1, 0, 1, 0);
        x.tell(4);
        x.morning();
        x.prune(7);
        x.keep(1);
        x.row(0, 3);
        x.row(4, 0);
        x.text(3, 0);
        counts(x, 6, 4 + 8 + 4 + 2 + 9 + 5, 1, 3, 16, 15, 128 + 8, 3, 1, 2, 2, 1);
        for (int i = 0; i < 4; i++) {
            x.tell(i);
        }
        C.due("a king can be told", x.count(5), 32);
        C.due("good ones, told or not", x.count(7), 3);
        C.refuses("count(12)", x, () -> x.count(12), LimeDeaths.BAD);
        C.refuses("count(-1)", x, () -> x.count(-1), LimeDeaths.BAD);
        counts(Check.green("t00000000k00k01"), 2, 0, 0, 0, 0, 3, 255, 2, 2, 0, 1, 0);
    }

    private static void findings() {
        LimeDeaths x = new LimeDeaths();
        x.at(0, 0);
        x.row(0, 0);
        x.at(0, 0);
        x.row(0, -1);
        x.mean(0);
        C.due("finding()", x.finding(), 4);
        x.row(0, 1);
        x.row(9, 9);
        C.due("finding() stays", x.finding(), 4);
        int[] wants = {1, 1, 0, 1, 1};
        for (int f = 1; f <= 5; f++) {
            C.due("findings(" + f + ")", x.findings(f), wants[f - 1]);
        }
        C.refuses("findings(0)", x, () -> x.findings(0), LimeDeaths.BAD);
        C.refuses("findings(6)", x, () -> x.findings(6), LimeDeaths.BAD);
        C.refuses("findings(min)", x, () -> x.findings(Integer.MIN_VALUE), LimeDeaths.BAD);
    }

    private static long hash(long... values) {
        long h = 17;
        for (long v : values) {
            h = 31 * h + v;
        }
        return h;
    }

    private static void digests() {
        LimeDeaths x = new LimeDeaths();
        C.due("digest() of a new object", x.digest(), hash(0, 0, 0, 0, 0, 0, 0, 0, 0, 0, 0, 0,
            0, 0, 0, 0, 0, 0, 0, 0, -1, -1, -1, -1, -1, -1, -1, -1, -1, -1, -1, -1, -1));
        Check.write(x, 1, "t10000009k79");
        x.green(1);
        x.morning();
        x.keep(2);
        Check.lay(x, 3, -5, 6);
        x.text(0, 1);
        x.put(0, 0, 200);
        C.due("digest()", x.digest(), hash(1, 15, 1, 1, 0, 1, 0, 1, 1, 1, 2, 1,
            2, 1, 1, 1, 1, 1, 1, 7, 5, 7, 9, 0, 1, 9, -1, -1, 1,
            -1, -1, -1, 2, -5, 6, -1, -1,
            1, -56, 12, 't', '1', '0', '0', '0', '0', '0', '0', '9', 'k', '7', '9', -1, -1));
        C.due("digest() tells nothing by asked()", x.asked(), 0);
    }
}
