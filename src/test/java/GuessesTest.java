/** Promises 27 to 33: who is about, by how it answered, whose worth. */
public final class GuessesTest {
    private static final Check C = new Check();
    private static final int NOTHING = 1, UNLIKE = 3, NOUGHT = 4, SIZE = 5;
    private static final String SIX = "t57301946 d05g17f00b23s14k39";

    public static void main(String[] args) {
        watches();
        watchRefusals();
        pairs();
        pairRefusals();
        worths();
        C.end();
    }

    private static void watch(LimeDeaths x, int b, int sets, int least, int each, int never) {
        C.due("about(" + b + ")", x.about(b, 0), 1);
        C.due("about(" + b + ") told", x.asked(), least);
        C.due("about(" + b + ") upper", x.upper(), sets);
        C.due("about(" + b + ") lower", x.lower(), 1);
        C.due("sure(" + b + ")", x.sure(b, 0), each);
        C.due("sure(" + b + ") told", x.asked(), never);
    }

    private static void nextOne(LimeDeaths x, int b, int want, int part) {
        C.due("next(" + b + ")", x.next(b, 0), want);
        C.due("next(" + b + ") told", x.asked(), part);
    }

    private static void watches() {
        LimeDeaths x = Check.green(SIX);
        Check.lay(x, 0, 4, 3);
        x.odds(0, 5, 4);
        watch(x, 0, 32, 0, 0, 1);
        nextOne(x, 0, 1, 16);
        Check.lay(x, 0, 6);
        watch(x, 0, 32, 1, 1, 0);
        watch(x, 1, 32, 2, 0, 0);
        nextOne(x, 1, 0, 16);
        Check.lay(x, 0, 8, 9);
        watch(x, 1, 16, 18, 18, 0);
        Check.lay(x, 0, 0, 0, 0);
        watch(x, 3, 32, 0, 0, 32);
        Check.lay(x, 0, 9, 9, 9);
        watch(x, 1, 0, LimeDeaths.NONE, 63, 63);
        C.refuses("next of no set", x, () -> x.next(1, 0), LimeDeaths.NONE);
        // what is told now does not matter, only what would be
        LimeDeaths y = Check.green("t50000000d00k10");
        y.tell(0);
        Check.lay(y, 0, 3, 2, 1, 0, 0, 0, 0, 0, 0, 0);
        watch(y, 0, 2, 0, 0, 1);
        nextOne(y, 0, 1, 1);
        // none tells them apart: the first bough
        LimeDeaths z = Check.green("t50000000f00");
        Check.lay(z, 0, 6);
        watch(z, 0, 2, 0, 0, 0);
        nextOne(z, 0, 0, 2);
    }

    private static void watchRefusals() {
        LimeDeaths x = Check.green(SIX);
        java.util.function.IntBinaryOperator[] calls = {x::about, x::sure, x::next};
        for (java.util.function.IntBinaryOperator call : calls) {
            x.tear(0);
            C.finds("watch of missing", x, () -> call.applyAsInt(0, 0), NOTHING);
            Check.lay(x, 0);
            C.finds("watch of none", x, () -> call.applyAsInt(0, 0), SIZE);
            Check.lay(x, 0, 0, 0, 0, 0, 0, 0, 0, 0, 0, 0, 99);
            C.finds("watch of eleven", x, () -> call.applyAsInt(0, 0), SIZE);
            Check.lay(x, 0, 4, 10);
            C.finds("watch of 10 leaves", x, () -> call.applyAsInt(0, 0), UNLIKE);
            Check.lay(x, 0, -1, 4);
            C.finds("watch of -1 leaves", x, () -> call.applyAsInt(0, 0), UNLIKE);
            C.refuses("watch of bough 8", x, () -> call.applyAsInt(8, 0), LimeDeaths.BAD);
            C.refuses("watch of bough -1", x, () -> call.applyAsInt(-1, 0), LimeDeaths.BAD);
            C.refuses("watch of row 6", x, () -> call.applyAsInt(0, 6), LimeDeaths.BAD);
            C.refuses("watch of row -1", x, () -> call.applyAsInt(0, -1), LimeDeaths.BAD);
        }
        LimeDeaths none = new LimeDeaths();
        C.refuses("about without deaths", none, () -> none.about(0, 0), LimeDeaths.STATE);
        C.refuses("sure without deaths", none, () -> none.sure(0, 0), LimeDeaths.STATE);
        C.refuses("next without deaths", none, () -> none.next(0, 0), LimeDeaths.STATE);
        C.refuses("about bad without deaths", none, () -> none.about(0, 6), LimeDeaths.BAD);
    }

    private static void pairs() {
        LimeDeaths x = Check.green(SIX);
        Check.lay(x, 0, 3, 6, 0, 3);
        C.due("worths good", x.worths(1, 0), 896);
        C.due("kinds good", x.kinds(1, 0), 2);
        C.due("worths king", x.worths(5, 0), 0);
        C.due("kinds of 5", x.kinds(0, 0), 16);
        Check.lay(x, 0, 9, 4);
        C.due("worths false", x.worths(2, 0), 1023);
        C.due("kinds false", x.kinds(2, 0), 4);
        Check.lay(x, 0, 0, 0);
        C.due("kinds of nought", x.kinds(2, 0), 1 + 2 + 4 + 8 + 32);
        C.due("worths of nought", x.worths(5, 0), 1);
        Check.lay(x, 0);
        C.due("worths of no pairs", x.worths(4, 0), 1023);
        C.due("kinds of no pairs", x.kinds(4, 0), 63);
        Check.lay(x, 0, 0, 2, 1, 3, 2, 4, 3, 5, 4, 6, 5, 7, 6, 8, 7, 9);
        C.due("worths of eight pairs", x.worths(1, 0), 16 + 32 + 64);
        C.due("worths of a soldier", x.worths(4, 0), 2 + 4 + 8);
        C.due("worths of a king", x.worths(5, 0), 2 + 4 + 8);
        C.due("kinds of eight pairs", x.kinds(3, 0), 16 + 32);
    }

    private static void pairRefusals() {
        LimeDeaths x = Check.green(SIX);
        java.util.function.IntBinaryOperator[] calls = {x::worths, x::kinds};
        for (java.util.function.IntBinaryOperator call : calls) {
            x.tear(0);
            C.finds("pairs of missing", x, () -> call.applyAsInt(0, 0), NOTHING);
            Check.lay(x, 0, 0, 0, 99);
            C.finds("pairs of three", x, () -> call.applyAsInt(0, 0), SIZE);
            x.row(0, 18);
            C.finds("nine pairs", x, () -> call.applyAsInt(0, 0), SIZE);
            Check.lay(x, 0, 0, 10);
            C.finds("pairs of 10", x, () -> call.applyAsInt(0, 0), UNLIKE);
            Check.lay(x, 0, 5, 0, -1, 0);
            C.finds("pairs of -1", x, () -> call.applyAsInt(0, 0), UNLIKE);
            C.refuses("pairs of death 6", x, () -> call.applyAsInt(6, 0), LimeDeaths.BAD);
            C.refuses("pairs of death -1", x, () -> call.applyAsInt(-1, 0), LimeDeaths.BAD);
            C.refuses("pairs of row 6", x, () -> call.applyAsInt(0, 6), LimeDeaths.BAD);
            C.refuses("pairs of row -1", x, () -> call.applyAsInt(0, -1), LimeDeaths.BAD);
        }
        LimeDeaths none = new LimeDeaths();
        C.refuses("worths without deaths", none, () -> none.worths(0, 0), LimeDeaths.BAD);
        C.refuses("kinds without deaths", none, () -> none.kinds(0, 0), LimeDeaths.BAD);
    }

    private static void worth(LimeDeaths x, int v, int sets, int first, int each, int never) {
        C.due("sets(" + v + ")", x.sets(v), 1);
        C.due("sets(" + v + ") told", x.asked(), first);
        C.due("sets(" + v + ") upper", x.upper(), sets);
        C.due("sets(" + v + ") lower", x.lower(), 1);
        C.due("surely(" + v + ")", x.surely(v), each);
        C.due("surely(" + v + ") told", x.asked(), never);
    }

    private static void worths() {
        LimeDeaths x = Check.green(SIX);
        x.mid(5);
        worth(x, 0, 2, 0, 0, 59);
        worth(x, 4, 2, 16, 16, 43);
        worth(x, 12, 6, 3, 0, 0);
        worth(x, 20, 2, 50, 50, 9);
        worth(x, 28, 2, 59, 59, 0);
        C.due("sets(54)", x.sets(54), 1);
        C.due("sets(54) told", x.asked(), LimeDeaths.NONE);
        C.due("sets(54) upper", x.upper(), 0);
        C.due("sets(54) lower", x.lower(), 1);
        C.finds("surely(54)", x, () -> x.surely(54), NOUGHT);
        worth(Check.green("t00000000d09d09d09d09d09d09"), 54, 1, 63, 63, 0);
        // the first by its bits
        worth(Check.green("t00000000d01d02d03d04"), 5, 2, 6, 0, 0);
        C.refuses("sets(55)", x, () -> x.sets(55), LimeDeaths.BAD);
        C.refuses("sets(-1)", x, () -> x.sets(-1), LimeDeaths.BAD);
        C.refuses("surely(55)", x, () -> x.surely(55), LimeDeaths.BAD);
        C.refuses("surely(-1)", x, () -> x.surely(-1), LimeDeaths.BAD);
        LimeDeaths none = new LimeDeaths();
        C.refuses("sets without deaths", none, () -> none.sets(0), LimeDeaths.STATE);
        C.refuses("surely without deaths", none, () -> none.surely(0), LimeDeaths.STATE);
    }
}
