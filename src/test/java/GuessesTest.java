import java.util.function.IntBinaryOperator;

/** Promises 27 to 33: who is about, by how it answered, whose worth. */
public final class GuessesTest {
    private static final Check C = new Check();
    private static final int NOTHING = Check.NOTHING, UNLIKE = Check.UNLIKE, NOUGHT = Check.NOUGHT, SIZE = Check.SIZE;
    private static final int MIN = Integer.MIN_VALUE, MAX = Integer.MAX_VALUE;
    private static final int NONE = LimeDeaths.NONE;
    private static final int[] NO_BOUGH = {-1, 8, MIN, MAX};
    private static final int[] NO_DEATH = {-1, 6, MIN, MAX};
    private static final int[] NO_ROW = {-1, 6, MIN, MAX};
    private static final int[] NO_FIGURE = {-1, 10, MIN, MAX};
    private static final int[] NO_SUM = {-1, 55, MIN, MAX};
    private static final String SIX = Check.SIX;

    public static void main(String[] args) {
        watching();
        about();
        sure();
        next();
        pairs();
        worths();
        kinds();
        sets();
        surely();
        C.end();
    }

    // who is about

    private static IntBinaryOperator[] watchers(LimeDeaths x) {
        return new IntBinaryOperator[] {x::about, x::sure, x::next};
    }

    private static void watching() {
        C.ahead("about");
        C.says("who is about (a ROW of 1 to 10 ints:");
        LimeDeaths x = Check.green("t50000000d00k10");
        for (IntBinaryOperator call : watchers(x)) {
            Check.lay(x, 5, 4);
            C.due("of one int", call.applyAsInt(0, 5) >= 0 ? 1 : 0, 1);
            Check.lay(x, 5, 4, 3, 2, 1, 0, 0, 0, 0, 0, 0);
            C.due("of ten ints", call.applyAsInt(0, 5) >= 0 ? 1 : 0, 1);
        }
        C.says("LEAVES of a BOUGH behind 1, 2, .. MORNINGS from now on,");
        Check.lay(x, 0, 4, 3, 2);
        C.tells("three mornings", x, () -> x.about(0, 0), 0);
        C.due("two sets", x.upper(), 2);
        x.morning();
        C.tells("a morning later it does not fit", x, () -> x.about(0, 0), NONE);
        Check.lay(x, 0, 3, 2);
        C.tells("from now on", x, () -> x.about(0, 0), 0);
        Check.lay(x, 0, 3, 3);
        C.tells("each one has to fit", x, () -> x.about(0, 0), NONE);
        Check.lay(x, 0, 2, 2);
        C.tells("the first too", x, () -> x.about(0, 0), NONE);
        C.says("0 .. 9:");
        LimeDeaths y = Check.green("t09000000d00d10");
        Check.lay(y, 0, 0);
        C.tells("no leaves", y, () -> y.about(0, 0), 0);
        Check.lay(y, 0, 9, 9);
        C.tells("nine leaves", y, () -> y.about(1, 0), 2);
        C.says("NOTHING; SIZE; UNLIKE; behind BAD, STATE).");
        for (int k = 0; k < 3; k++) {
            watchOrder(k);
        }
    }

    private static void watchMissing(int k) {
        LimeDeaths x = Check.green(SIX);
        for (int r = 0; r < 6; r++) {
            int row = r;
            C.finds("a missing row", x, () -> watchers(x)[k].applyAsInt(0, row), NOTHING);
        }
    }

    private static void watchSizes(int k) {
        LimeDeaths x = Check.green(SIX);
        for (int n : new int[] {0, 11, 12, 40}) {
            x.row(0, n);
            C.finds(n + " ints", x, () -> watchers(x)[k].applyAsInt(0, 0), SIZE);
        }
    }

    private static void watchUnlike(int k) {
        LimeDeaths x = Check.green(SIX);
        for (int v : NO_FIGURE) {
            Check.lay(x, 0, v, 4, 4);
            C.finds(v + " as the first", x, () -> watchers(x)[k].applyAsInt(0, 0), UNLIKE);
            Check.lay(x, 0, 9, 9, 9, 9, 9, 9, 9, 9, 9, v);
            C.finds(v + " as the last of ten that do not fit", x, () -> watchers(x)[k].applyAsInt(0, 0), UNLIKE);
        }
    }

    private static void watchOrder(int k) {
        LimeDeaths x = Check.green(SIX);
        x.row(0, 11);
        x.lay(0, 10, 99);
        C.finds("eleven ints, SIZE ahead of UNLIKE", x, () -> watchers(x)[k].applyAsInt(0, 0), SIZE);
        C.bad("of bough 8, BAD ahead of SIZE", x, () -> watchers(x)[k].applyAsInt(8, 0));
        C.bad("of bough 8, BAD ahead of NOTHING", x, () -> watchers(x)[k].applyAsInt(8, 1));
        LimeDeaths none = new LimeDeaths();
        C.refuses("STATE ahead of NOTHING", none, () -> watchers(none)[k].applyAsInt(0, 0), LimeDeaths.STATE);
    }

    private static void watchBad(int k) {
        LimeDeaths x = Check.lay(Check.green(SIX), 0, 4);
        LimeDeaths none = new LimeDeaths();
        IntBinaryOperator ask = watchers(x)[k];
        IntBinaryOperator askNone = watchers(none)[k];
        for (int b : NO_BOUGH) {
            C.bad("of bough " + b, x, () -> ask.applyAsInt(b, 0));
            C.bad("of bough " + b + ", BAD ahead of NOTHING", x, () -> ask.applyAsInt(b, 5));
            C.bad("of bough " + b + " without deaths, BAD ahead of STATE", none, () -> askNone.applyAsInt(b, 0));
        }
        for (int r : NO_ROW) {
            C.bad("of row " + r, x, () -> ask.applyAsInt(0, r));
            C.bad("of row " + r + " without deaths, BAD ahead of STATE", none, () -> askNone.applyAsInt(0, r));
        }
    }

    private static void watchState(int k) {
        LimeDeaths none = new LimeDeaths();
        IntBinaryOperator ask = watchers(none)[k];
        C.refuses("without deaths, STATE ahead of NOTHING", none, () -> ask.applyAsInt(0, 0), LimeDeaths.STATE);
        Check.lay(none, 0);
        C.refuses("without deaths, STATE ahead of SIZE", none, () -> ask.applyAsInt(0, 0), LimeDeaths.STATE);
        Check.lay(none, 0, 10);
        C.refuses("without deaths, STATE ahead of UNLIKE", none, () -> ask.applyAsInt(0, 0), LimeDeaths.STATE);
        Check.lay(none, 0, 1);
        C.refuses("without deaths", none, () -> ask.applyAsInt(7, 0), LimeDeaths.STATE);
    }

    private static void aboutRow(LimeDeaths x, int b, int sets, int least, int... leaves) {
        Check.lay(x, 0, leaves);
        x.odds(0, 9, 5);
        C.tells("about(" + b + ", 0)", x, () -> x.about(b, 0), least);
        C.due("about(" + b + ", 0) upper()", x.upper(), sets);
        C.due("about(" + b + ", 0) lower()", x.lower(), 1);
    }

    private static void about() {
        C.promise(27);
        C.says("How many sets of DEATHS can be TOLD now by these, all else as it is, told by upper() (lower() is 1);");
        LimeDeaths x = Check.green(SIX);
        aboutRow(x, 0, 32, 0, 4, 3);
        aboutRow(x, 0, 32, 1, 6);
        aboutRow(x, 1, 32, 2, 6);
        aboutRow(x, 1, 16, 0, 5);
        aboutRow(x, 1, 16, 18, 8, 9);
        aboutRow(x, 3, 32, 0, 0, 0, 0);
        aboutRow(x, 4, 64, 0, 2, 3, 4, 5, 6, 7, 8, 9, 9, 9);
        x.prune(1);
        aboutRow(x, 1, 16, 18, 1);
        aboutRow(x, 1, 48, 0, 0);
        LimeDeaths y = Check.green("t50000000d00k10");
        y.tell(0);
        aboutRow(y, 0, 2, 0, 3);
        aboutRow(y, 0, 2, 1, 5);
        LimeDeaths one = Check.green("t50000000d00");
        aboutRow(one, 0, 1, 0, 4);
        aboutRow(one, 0, 1, 1, 6);
        C.says("the least by asked() (bits; NONE): 1.");
        LimeDeaths two = Check.green("t50000000d00g00");
        aboutRow(two, 0, 1, 0, 3);
        aboutRow(two, 0, 2, 1, 4);
        aboutRow(two, 0, 1, 3, 6);
        aboutRow(two, 0, 0, NONE, 5);
        aboutRow(x, 7, 0, NONE, 9, 9, 9);
        C.says("BAD;");
        watchBad(0);
        C.says("STATE: no DEATHS;");
        watchState(0);
        C.says("NOTHING;");
        watchMissing(0);
        C.says("SIZE;");
        watchSizes(0);
        C.says("UNLIKE.");
        watchUnlike(0);
        C.says("(In this order.)");
        watchOrder(0);
    }

    private static void sureRow(LimeDeaths x, int b, int each, int never, int... leaves) {
        Check.lay(x, 0, leaves);
        long upper = x.upper();
        C.due("sure(" + b + ", 0)", x.sure(b, 0), each);
        C.due("sure(" + b + ", 0) asked()", x.asked(), never);
        C.due("sure(" + b + ", 0) tells no upper()", x.upper(), upper);
    }

    private static void sure() {
        C.promise(28);
        C.says("DEATHS (bits) that are TOLD in each such set; those that are in none by asked()");
        LimeDeaths x = Check.green(SIX);
        sureRow(x, 0, 0, 1, 4, 3);
        sureRow(x, 0, 1, 0, 6);
        sureRow(x, 1, 0, 0, 6);
        sureRow(x, 1, 0, 18, 5);
        sureRow(x, 1, 18, 0, 8, 9);
        sureRow(x, 3, 0, 32, 0, 0, 0);
        sureRow(x, 3, 32, 0, 1);
        LimeDeaths two = Check.green("t50000000d00g00");
        sureRow(two, 0, 0, 3, 3);
        sureRow(two, 0, 0, 0, 4);
        sureRow(two, 0, 3, 0, 6);
        C.says("(all of both, if there is no set).");
        sureRow(two, 0, 3, 3, 5);
        sureRow(x, 7, 63, 63, 9, 9, 9);
        C.says("BAD;");
        watchBad(1);
        C.says("STATE;");
        watchState(1);
        C.says("NOTHING;");
        watchMissing(1);
        C.says("SIZE;");
        watchSizes(1);
        C.says("UNLIKE.");
        watchUnlike(1);
        C.says("(In this order.)");
        watchOrder(1);
    }

    private static void nextRow(LimeDeaths x, int b, int best, int part, int... leaves) {
        Check.lay(x, 0, leaves);
        C.due("next(" + b + ", 0)", x.next(b, 0), best);
        C.due("next(" + b + ", 0) asked()", x.asked(), part);
    }

    private static void next() {
        C.promise(29);
        C.says("The BOUGH (0 .. 7; the first) of which to count LEAVES behind these MORNINGS, to tell these sets apart "
            + "best:");
        LimeDeaths x = Check.green(SIX);
        nextRow(x, 0, 1, 16, 4, 3);
        nextRow(x, 1, 0, 16, 6);
        nextRow(Check.green("t55500000d00d10d20"), 0, 1, 2, 4);
        nextRow(Check.green("t05000005f00d70"), 0, 7, 2, 1);
        nextRow(Check.green("t50000000f00"), 0, 0, 2, 6);
        nextRow(Check.green("t50000000d00"), 7, 0, 1, 1);
        C.says("the greatest part by which it has as many is least; that part by asked().");
        // bough 1: haunted by 3, 2, 1, 0; behind four mornings all of the first three are bare
        LimeDeaths y = Check.green("t54500000d00d10k10d20");
        nextRow(y, 0, 1, 2, 4);
        nextRow(y, 0, 2, 4, 4, 3, 2, 1);
        // bough 1 has parts of 1, 2, 1; bough 2 of 2, 2: the greatest ones are alike
        nextRow(Check.green("t05500000d10d10d20f00"), 0, 1, 8, 1);
        nextRow(Check.green("t05500000d20d10d10f00"), 2, 1, 4, 4);
        C.says("NONE: there is no set.");
        Check.lay(x, 0, 9, 9, 9);
        C.refuses("next of no set", x, () -> x.next(1, 0), NONE);
        C.refuses("next of no set", x, () -> x.next(7, 0), NONE);
        C.says("BAD;");
        watchBad(2);
        C.says("STATE;");
        watchState(2);
        C.says("NOTHING;");
        watchMissing(2);
        C.says("SIZE;");
        watchSizes(2);
        C.says("UNLIKE.");
        watchUnlike(2);
        C.says("(In this order.)");
        watchOrder(2);
    }

    // by how it answered

    private static IntBinaryOperator asker(LimeDeaths x, boolean kinds) {
        return kinds ? x::kinds : x::worths;
    }

    private static void pairs() {
        C.ahead("worths");
        C.says("by how it answered (a ROW of pairs, 0 to 8: LEAVES ahead, LEAVES behind, 0 .. 9:");
        LimeDeaths x = Check.green(SIX);
        x.row(0, 0);
        C.due("no pairs", x.worths(1, 0), 1023);
        C.due("no pairs", x.kinds(1, 0), 63);
        Check.lay(x, 0, 0, 3, 1, 4, 2, 5, 3, 6, 4, 7, 5, 8, 6, 9, 9, 9);
        C.due("eight pairs", x.worths(1, 0), 128 + 256 + 512);
        C.due("eight pairs", x.kinds(1, 0), 2);
        x.lay(0, 15, 8);
        C.due("the last one does not fit", x.worths(1, 0), 0);
        Check.lay(x, 0, 9, 0);
        C.due("ahead 9, behind 0", x.kinds(1, 0), 8);
        Check.lay(x, 0, 0, 9);
        C.due("ahead 0, behind 9", x.kinds(1, 0), 0);
        C.says("NOTHING; SIZE; UNLIKE; behind BAD).");
        for (int k = 0; k < 2; k++) {
            pairsMissing(k == 1);
            pairsSizes(k == 1);
            pairsUnlike(k == 1);
        }
    }

    private static void pairsBad(boolean kinds) {
        LimeDeaths x = Check.green(SIX);
        x.row(0, 0);
        IntBinaryOperator ask = asker(x, kinds);
        for (int i : NO_DEATH) {
            C.bad("of death " + i, x, () -> ask.applyAsInt(i, 0));
            C.bad("of death " + i + ", BAD ahead of NOTHING", x, () -> ask.applyAsInt(i, 5));
        }
        for (int r : NO_ROW) {
            C.bad("of row " + r, x, () -> ask.applyAsInt(0, r));
        }
        LimeDeaths none = new LimeDeaths();
        none.row(0, 0);
        C.bad("without deaths", none, () -> asker(none, kinds).applyAsInt(0, 0));
        C.bad("without deaths, BAD ahead of NOTHING", none, () -> asker(none, kinds).applyAsInt(0, 1));
        LimeDeaths one = Check.green("t00000000d00");
        one.row(0, 0);
        C.bad("of death 1 of one", one, () -> asker(one, kinds).applyAsInt(1, 0));
    }

    private static void pairsMissing(boolean kinds) {
        LimeDeaths x = Check.green(SIX);
        for (int r = 0; r < 6; r++) {
            int row = r;
            C.finds("a missing row", x, () -> asker(x, kinds).applyAsInt(0, row), NOTHING);
        }
    }

    private static void pairsSizes(boolean kinds) {
        LimeDeaths x = Check.green(SIX);
        for (int n : new int[] {1, 3, 15, 17, 18, 19, 39, 40}) {
            x.row(0, n);
            C.finds(n + " ints", x, () -> asker(x, kinds).applyAsInt(0, 0), SIZE);
            x.lay(0, 0, 10);
            C.finds(n + " ints, SIZE ahead of UNLIKE", x, () -> asker(x, kinds).applyAsInt(0, 0), SIZE);
        }
        for (int n = 0; n <= 16; n += 2) {
            x.row(0, n);
            C.due(n + " ints are pairs", asker(x, kinds).applyAsInt(0, 0) >= 0 ? 1 : 0, 1);
        }
    }

    private static void pairsUnlike(boolean kinds) {
        LimeDeaths x = Check.green(SIX);
        for (int v : NO_FIGURE) {
            Check.lay(x, 0, v, 0);
            C.finds(v + " ahead", x, () -> asker(x, kinds).applyAsInt(0, 0), UNLIKE);
            Check.lay(x, 0, 0, v);
            C.finds(v + " behind", x, () -> asker(x, kinds).applyAsInt(0, 0), UNLIKE);
            Check.lay(x, 0, 0, 9, 0, 9, 0, 9, 0, 9, 0, 9, 0, 9, 0, 9, 0, v);
            C.finds(v + " as the last of eight that do not fit", x, () -> asker(x, kinds).applyAsInt(0, 0), UNLIKE);
        }
    }

    private static void worths() {
        C.promise(30);
        C.says("Which WORTHS (bits 0 .. 9) a DEATH can have by these.");
        LimeDeaths x = Check.green(SIX);
        Check.lay(x, 0, 3, 6, 0, 3);
        int[] wants = {0, 896, 0, 0, 16 + 32 + 64, 0};
        for (int i = 0; i < 6; i++) {
            C.due("of 3 to 6, 0 to 3, death " + i, x.worths(i, 0), wants[i]);
        }
        Check.lay(x, 0, 0, 0);
        int[] nought = {1023, 1, 1023, 1023, 0, 1};
        for (int i = 0; i < 6; i++) {
            C.due("of 0 to 0, death " + i, x.worths(i, 0), nought[i]);
        }
        Check.lay(x, 0, 9, 9);
        int[] nine = {0, 1023, 0, 0, 1023, 1023};
        for (int i = 0; i < 6; i++) {
            C.due("of 9 to 9, death " + i, x.worths(i, 0), nine[i]);
        }
        Check.lay(x, 0, 7, 9, 5, 9);
        C.due("what is cut at 9 tells less", x.worths(5, 0), 16 + 32 + 64 + 128 + 256 + 512);
        x.tell(1);
        Check.lay(x, 0, 0, 2);
        C.due("told or not", x.worths(1, 0), 16 + 32 + 64);
        C.says("BAD;");
        pairsBad(false);
        C.says("NOTHING;");
        pairsMissing(false);
        C.says("SIZE;");
        pairsSizes(false);
        C.says("UNLIKE.");
        pairsUnlike(false);
    }

    private static void kinds() {
        C.promise(31);
        C.says("Of which KINDS (bits) a DEATH can be by these, its WORTH as it is.");
        LimeDeaths x = Check.green(SIX);
        // worths 5, 7, 0, 3, 4, 9
        Check.lay(x, 0, 3, 6, 0, 3);
        int[] wants = {16, 2, 0, 0, 16, 2};
        for (int i = 0; i < 6; i++) {
            C.due("of 3 to 6, 0 to 3, death " + i, x.kinds(i, 0), wants[i]);
        }
        Check.lay(x, 0, 0, 0);
        int[] nought = {13, 13, 47, 13, 13, 13};
        for (int i = 0; i < 6; i++) {
            C.due("of 0 to 0, death " + i, x.kinds(i, 0), nought[i]);
        }
        Check.lay(x, 0, 1, 0);
        C.due("of 1 to 0", x.kinds(0, 0), 13);
        Check.lay(x, 0, 2, 1);
        C.due("of 2 to 1", x.kinds(5, 0), 5);
        Check.lay(x, 0, 9, 9);
        C.due("of 9 to 9", x.kinds(2, 0), 50);
        Check.lay(x, 0, 0, 2, 1, 3);
        C.due("of 0 to 2, 1 to 3, worth 3", x.kinds(3, 0), 48);
        x.tell(3);
        C.due("told or not", x.kinds(3, 0), 48);
        C.says("BAD;");
        pairsBad(true);
        C.says("NOTHING;");
        pairsMissing(true);
        C.says("SIZE;");
        pairsSizes(true);
        C.says("UNLIKE.");
        pairsUnlike(true);
    }

    // whose worth

    private static void setsOf(LimeDeaths x, int v, int sets, int first) {
        x.odds(0, 9, 5);
        C.tells("sets(" + v + ")", x, () -> x.sets(v), first);
        C.due("sets(" + v + ") upper()", x.upper(), sets);
        C.due("sets(" + v + ") lower()", x.lower(), 1);
    }

    private static void sets() {
        C.promise(32);
        C.says("How many sets of DEATHS have a WORTH of v (0 .. 54) together, told by upper() (lower() is 1);");
        LimeDeaths x = Check.green(SIX);
        setsOf(x, 0, 2, 0);
        setsOf(x, 4, 2, 16);
        setsOf(x, 12, 6, 3);
        setsOf(x, 20, 2, 50);
        setsOf(x, 28, 2, 59);
        setsOf(Check.green("t00000000d09d09d09d09d09d09"), 54, 1, 63);
        setsOf(Check.green("t00000000d00d00d00d00d00d00"), 0, 64, 0);
        setsOf(Check.green("t00000000d01d01d01d01d01d01"), 3, 20, 7);
        x.tell(1);
        setsOf(x, 12, 6, 3);
        C.says("the first by asked() (bits; NONE): 1.");
        setsOf(Check.green("t00000000d01d02d03d04"), 5, 2, 6);
        setsOf(Check.green("t00000000d04d03d02d01"), 5, 2, 6);
        setsOf(Check.green("t00000000d05d02d03d05"), 5, 3, 1);
        setsOf(x, 1, 0, NONE);
        setsOf(x, 29, 0, NONE);
        setsOf(x, 54, 0, NONE);
        C.says("BAD;");
        LimeDeaths none = new LimeDeaths();
        for (int v : NO_SUM) {
            C.bad("sets(" + v + ")", x, () -> x.sets(v));
            C.bad("sets(" + v + ") without deaths, BAD ahead of STATE", none, () -> none.sets(v));
        }
        C.says("STATE: no DEATHS.");
        C.refuses("sets(0) without deaths", none, () -> none.sets(0), LimeDeaths.STATE);
        C.refuses("sets(54) without deaths", none, () -> none.sets(54), LimeDeaths.STATE);
    }

    private static void surelyOf(LimeDeaths x, int v, int each, int never) {
        C.due("surely(" + v + ")", x.surely(v), each);
        C.due("surely(" + v + ") asked()", x.asked(), never);
    }

    private static void surely() {
        C.promise(33);
        C.says("DEATHS (bits) that are in each such set; those in none by asked().");
        LimeDeaths x = Check.green(SIX);
        surelyOf(x, 0, 0, 59);
        surelyOf(x, 4, 16, 43);
        surelyOf(x, 12, 0, 0);
        surelyOf(x, 20, 50, 9);
        surelyOf(x, 28, 59, 0);
        surelyOf(Check.green("t00000000d09d09d09d09d09d09"), 54, 63, 0);
        surelyOf(Check.green("t00000000d01"), 0, 0, 1);
        surelyOf(Check.green("t00000000d01"), 1, 1, 0);
        C.says("BAD;");
        LimeDeaths none = new LimeDeaths();
        for (int v : NO_SUM) {
            C.bad("surely(" + v + ")", x, () -> x.surely(v));
            C.bad("surely(" + v + ") without deaths, BAD ahead of STATE", none, () -> none.surely(v));
        }
        C.says("STATE;");
        C.refuses("surely(0) without deaths", none, () -> none.surely(0), LimeDeaths.STATE);
        C.says("NOUGHT: there is no set.");
        for (int v : new int[] {1, 29, 54}) {
            C.finds("surely(" + v + ")", x, () -> x.surely(v), NOUGHT);
        }
        C.says("(In this order.)");
        C.refuses("surely(1) without deaths, STATE ahead of NOUGHT", none, () -> none.surely(1), LimeDeaths.STATE);
        C.bad("surely(55), BAD ahead of NOUGHT", x, () -> x.surely(55));
    }
}
