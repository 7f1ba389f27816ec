import java.util.function.ToIntFunction;

/** Promises 38 to 44: what is told. */
public final class ToldTest {
    private static final Check C = new Check();
    private static final int MIN = Integer.MIN_VALUE, MAX = Integer.MAX_VALUE;
    private static final int NONE = LimeDeaths.NONE;
    private static final String SIX = Check.SIX;

    public static void main(String[] args) {
        asked();
        ratios();
        count();
        finding();
        findings();
        digest();
        C.end();
    }

    /** SIX with a row 0 of 4, 3, a row 1 that fits nothing, an empty row 2; 77 was asked last, and 5 by 9 told. */
    private static LimeDeaths ready() {
        LimeDeaths x = Check.green(SIX);
        x.odds(1, 9, 4);
        Check.lay(x, 0, 4, 3);
        Check.lay(x, 1, 9, 9, 9);
        x.row(2, 0);
        Check.lay(x, 3, 77);
        x.at(3, 0);
        return x;
    }

    private static void tells(String call, ToIntFunction<LimeDeaths> run, int want) {
        LimeDeaths x = ready();
        C.due(call + " is answered", run.applyAsInt(x) >= 0 ? 1 : 0, 1);
        C.due(call + " asked()", x.asked(), want);
        C.due(call + " asked() again", x.asked(), want);
    }

    private static void tellsNothing(String call, ToIntFunction<LimeDeaths> run) {
        LimeDeaths x = ready();
        run.applyAsInt(x);
        C.due(call + " leaves asked()", x.asked(), 77);
    }

    private static void asked() {
        C.promise(38);
        C.says("What the latest lay(), at(), mean(), bough(), death(), leaves(), about(), sure(), next(), sets(), "
            + "surely(), duel()");
        tells("lay", x -> x.lay(0, 1, 9), 3);
        tells("at", x -> x.at(0, 1), 3);
        tells("mean", x -> x.mean(0), 3);
        tells("bough", x -> x.bough(5, 0), 9);
        tells("death", x -> x.death(4, 2), 4);
        tells("leaves", x -> x.leaves(9), 3);
        tells("about", x -> x.about(0, 0), 0);
        tells("sure", x -> x.sure(0, 0), 1);
        tells("next", x -> x.next(0, 0), 16);
        tells("sets", x -> x.sets(4), 16);
        tells("surely", x -> x.surely(4), 43);
        tells("duel", x -> x.duel(2), -11);
        tells("about of no set", x -> x.about(0, 1), NONE);
        tells("sure of no set", x -> x.sure(0, 1), 63);
        tells("sets of none", x -> x.sets(54), NONE);
        othersTellNothing();
        C.says("that was not refused (nor NONE) told;");
        tellsNothing("lay bad", x -> x.lay(6, 0, 0));
        tellsNothing("lay missing", x -> x.lay(5, 0, 0));
        tellsNothing("lay beyond", x -> x.lay(0, 2, 0));
        tellsNothing("at bad", x -> x.at(6, 0));
        tellsNothing("at missing", x -> x.at(5, 0));
        tellsNothing("at beyond", x -> x.at(0, 2));
        tellsNothing("mean bad", x -> x.mean(6));
        tellsNothing("mean missing", x -> x.mean(5));
        tellsNothing("mean of none", x -> x.mean(2));
        tellsNothing("bough bad", x -> x.bough(8, 0));
        tellsNothing("death bad", x -> x.death(6, 0));
        tellsNothing("leaves bad", x -> x.leaves(41));
        tellsNothing("about of no ints", x -> x.about(0, 2));
        tellsNothing("sure of no ints", x -> x.sure(0, 2));
        tellsNothing("next of no ints", x -> x.next(0, 2));
        tellsNothing("next of no set", x -> x.next(0, 1));
        tellsNothing("sets bad", x -> x.sets(55));
        tellsNothing("surely bad", x -> x.surely(55));
        tellsNothing("surely of no set", x -> x.surely(54));
        tellsNothing("duel bad", x -> x.duel(3));
        C.says("0 before.");
        LimeDeaths none = new LimeDeaths();
        C.due("asked() at first", none.asked(), 0);
        C.due("and behind a refusal", none.at(0, 0) + none.leaves(0) + none.asked(), -7);
    }

    private static void othersTellNothing() {
        tellsNothing("row", x -> x.row(5, 3));
        tellsNothing("tear", x -> x.tear(0));
        tellsNothing("copy", x -> x.copy(0, 0, 1, 0, 2));
        tellsNothing("text", x -> x.text(0, 5));
        tellsNothing("put", x -> x.put(0, 0, 5));
        tellsNothing("fault", x -> x.fault(0));
        tellsNothing("green", x -> x.green(0));
        tellsNothing("mark", x -> x.mark(1, 1));
        tellsNothing("morning", LimeDeaths::morning);
        tellsNothing("tell", x -> x.tell(0));
        tellsNothing("water", x -> x.water(0, 1));
        tellsNothing("prune", x -> x.prune(0));
        tellsNothing("undo", x -> x.undo(0));
        tellsNothing("keep, on", x -> x.keep(0) + x.on(0));
        tellsNothing("answers", x -> x.answers(0, 0, 0));
        tellsNothing("bare", x -> x.bare(0));
        tellsNothing("round", x -> x.round(3, 5));
        tellsNothing("plan", x -> x.plan(0, 5, 5));
        tellsNothing("worths, kinds", x -> x.worths(0, 2) + x.kinds(0, 2));
        tellsNothing("odds, mid", x -> x.odds(0, 5, 5) + x.mid(5));
        tellsNothing("lots", x -> x.lots(20, 5));
        tellsNothing("what is told", x -> x.count(1) + x.finding() + x.findings(1) + (int) x.digest());
    }

    private static void ratio(String call, ToIntFunction<LimeDeaths> run, long upper, long lower) {
        LimeDeaths x = ready();
        C.due(call, run.applyAsInt(x), 1);
        C.due(call + " upper()", x.upper(), upper);
        C.due(call + " lower()", x.lower(), lower);
    }

    private static void leavesRatio(String call, ToIntFunction<LimeDeaths> run) {
        LimeDeaths x = ready();
        run.applyAsInt(x);
        C.due(call + " leaves upper()", x.upper(), 5);
        C.due(call + " leaves lower()", x.lower(), 9);
    }

    private static void ratios() {
        C.promise(39);
        C.says("The upper number that was told last;");
        ratio("about", x -> x.about(0, 0), 32, 1);
        ratio("sets", x -> x.sets(12), 6, 1);
        ratio("odds", x -> x.odds(3, 2, 6), 1, 64);
        ratio("mid", x -> x.mid(5), 16725385, 497664);
        leavesRatio("about refused", x -> x.about(0, 2));
        leavesRatio("sets refused", x -> x.sets(55));
        leavesRatio("odds refused", x -> x.odds(8, 0, 0));
        leavesRatio("mid refused", x -> x.mid(13));
        leavesRatio("sure, next", x -> x.sure(0, 0) + x.next(0, 0));
        leavesRatio("surely, duel", x -> x.surely(4) + x.duel(2));
        leavesRatio("leaves, mean", x -> x.leaves(3) + x.mean(0));
        leavesRatio("worths, kinds", x -> x.worths(0, 2) + x.kinds(0, 2));
        leavesRatio("green, lots", x -> x.green(0) + x.lots(5, 5));
        C.says("0 before.");
        C.due("upper() at first", new LimeDeaths().upper(), 0);
        C.promise(40);
        C.says("Its lower number;");
        LimeDeaths x = ready();
        C.due("lower()", x.lower(), 9);
        x.mid(5);
        C.due("lower() of a mean", x.lower(), 497664);
        x.about(0, 1);
        C.due("lower() of no sets", x.lower(), 1);
        C.says("1 before.");
        C.due("lower() at first", new LimeDeaths().lower(), 1);
        LimeDeaths none = new LimeDeaths();
        C.due("and behind a refusal", none.mid(0) + none.lower(), -3);
    }

    private static void counts(LimeDeaths x, int what, int want) {
        C.due("count(" + what + ")", x.count(what), want);
    }

    private static void count() {
        C.promise(41);
        LimeDeaths x = Check.green(SIX);
        x.tell(4);
        x.morning();
        x.morning();
        x.prune(7);
        x.keep(1);
        x.row(0, 3);
        x.row(4, 0);
        x.text(3, 0);
        LimeDeaths kings = Check.green("t00000000k00k01");
        LimeDeaths none = new LimeDeaths();
        C.says("0 DEATHS,");
        counts(x, 0, 6);
        counts(kings, 0, 2);
        counts(none, 0, 0);
        C.says("1 all LEAVES,");
        counts(x, 1, 3 + 7 + 5 + 0 + 3 + 9 + 6 + 0);
        counts(Check.green("t99999999d00"), 1, 72);
        counts(kings, 1, 0);
        counts(none, 1, 0);
        C.says("2 the number of the next MORNING,");
        counts(x, 2, 2);
        counts(Check.full(SIX), 2, 40);
        counts(none, 2, 0);
        C.says("3 DEEDS,");
        counts(x, 3, 4);
        counts(Check.full(SIX), 3, 40);
        counts(none, 3, 0);
        C.says("4 DEATHS that are TOLD (bits),");
        counts(x, 4, 16);
        counts(none, 4, 0);
        C.says("5 those that can be TOLD now (bits),");
        counts(x, 5, 15);
        counts(kings, 5, 3);
        counts(Check.full(SIX), 5, 31);
        counts(none, 5, 0);
        for (int i = 0; i < 4; i++) {
            x.tell(i);
        }
        counts(x, 5, 32);
        counts(x, 4, 31);
        x.tell(5);
        counts(x, 5, 0);
        counts(x, 4, 63);
        countOthers(x, kings, none);
    }

    private static void countOthers(LimeDeaths x, LimeDeaths kings, LimeDeaths none) {
        C.says("6 BOUGHS (bits) that have none,");
        counts(x, 6, 4 + 128);
        counts(kings, 6, 255);
        counts(Check.green("t01111110f70"), 6, 129);
        counts(Check.green("t99999999d00"), 6, 0);
        C.says("7 GOOD ones (SOLDIERS, KINGS, too),");
        counts(x, 7, 3);
        counts(kings, 7, 2);
        counts(Check.green("t00000000d00f00b00"), 7, 0);
        counts(Check.green("t00000000g00g00s00s00k00k00"), 7, 6);
        counts(none, 7, 0);
        C.says("8 KINGS,");
        counts(x, 8, 1);
        counts(kings, 8, 2);
        counts(Check.green("t00000000d00g00f00b00s00"), 8, 0);
        counts(none, 8, 0);
        C.says("9 ROWS, 10 TEXTS that are there,");
        counts(x, 9, 2);
        counts(x, 10, 2);
        counts(none, 9, 0);
        counts(none, 10, 0);
        C.says("11 kept GREENS");
        counts(x, 11, 1);
        x.keep(0);
        x.keep(2);
        x.keep(1);
        counts(x, 11, 3);
        counts(none, 11, 0);
        C.says("(6: 0 without DEATHS).");
        counts(none, 6, 0);
        C.says("BAD.");
        for (int what : new int[] {-1, 12, MIN, MAX}) {
            C.bad("count(" + what + ")", x, () -> x.count(what));
            C.bad("count(" + what + ") at first", none, () -> none.count(what));
        }
    }

    private static void finding() {
        C.promise(42);
        C.says("The latest FINDING");
        LimeDeaths x = new LimeDeaths();
        x.at(0, 0);
        C.due("nothing", x.finding(), 1);
        x.row(0, 0);
        C.due("it stays", x.finding(), 1);
        x.at(0, 0);
        C.due("beyond", x.finding(), 2);
        x.row(0, -1);
        C.due("size", x.finding(), 5);
        x.mean(0);
        C.due("nought", x.finding(), 4);
        x.row(9, 9);
        x.morning();
        C.due("another refusal is no finding", x.finding(), 4);
        Check.write(x, 0, SIX);
        x.green(0);
        C.due("it stays on a green anew", x.finding(), 4);
        x.mark(0, 1);
        C.due("unlike", x.finding(), 3);
        C.due("asked again", x.finding(), 3);
        C.says("(0 before any).");
        LimeDeaths none = new LimeDeaths();
        C.due("finding() at first", none.finding(), 0);
        none.row(6, 0);
        C.due("and behind another refusal", none.finding(), 0);
    }

    private static void findings() {
        C.promise(43);
        C.says("How often a FINDING (1 .. 5) was answered.");
        LimeDeaths x = Check.green(SIX);
        x.row(0, 0);
        int[] times = {0, 3, 1, 4, 2, 5};
        for (int k = 0; k < 5; k++) {
            int nothing = k < times[1] ? x.at(5, 0) : 0;
            int beyond = k < times[2] ? x.at(0, 0) : 0;
            int unlike = k < times[3] ? x.mark(0, 1) : 0;
            int nought = k < times[4] ? x.mean(0) : 0;
            C.due("size", x.row(0, -1), LimeDeaths.FINDING);
            C.due("others", nothing + beyond + unlike + nought,
                -3 * ((k < 3 ? 1 : 0) + (k < 1 ? 1 : 0) + (k < 4 ? 1 : 0) + (k < 2 ? 1 : 0)));
        }
        x.row(6, 0);
        x.tell(5);
        for (int f = 1; f <= 5; f++) {
            C.due("findings(" + f + ")", x.findings(f), times[f]);
            C.due("none at first", new LimeDeaths().findings(f), 0);
        }
        LimeDeaths many = new LimeDeaths();
        for (int k = 0; k < 511; k++) {
            many.at(0, 0);
        }
        C.due("in 511 calls", many.findings(1), 511);
        C.says("BAD.");
        for (int f : new int[] {0, -1, 6, MIN, MAX}) {
            C.bad("findings(" + f + ")", x, () -> x.findings(f));
        }
    }

    private static long hash(long... values) {
        long h = 17;
        for (long v : values) {
            h = 31 * h + v;
        }
        return h;
    }

    private static void digest() {
        C.promise(44);
        C.says("h = 17; then h = 31 h + v for each v: count() 0 to 11; LEAVES of BOUGHS 0 to 7;");
        LimeDeaths none = new LimeDeaths();
        C.due("digest() at first", none.digest(), hash(0, 0, 0, 0, 0, 0, 0, 0, 0, 0, 0, 0,
            0, 0, 0, 0, 0, 0, 0, 0, -1, -1, -1, -1, -1, -1, -1, -1, -1, -1, -1, -1, -1));
        C.says("of each DEATH death() 0 to 5;");
        LimeDeaths x = new LimeDeaths();
        Check.write(x, 1, "t10000009k79d04");
        x.green(1);
        x.tell(1);
        x.tear(0);
        C.due("digest() of two", x.digest(), hash(2, 9, 0, 1, 2, 1, 127, 1, 1, 0, 1, 0,
            0, 0, 0, 0, 0, 0, 0, 9, 5, 7, 9, 0, 1, 9, 0, 0, 4, 1, 0, 0, -1, -1, -1,
            -1, -1, -1, -1, -1, -1, -1, 15, 't', '1', '0', '0', '0', '0', '0', '0', '9', 'k', '7', '9', 'd', '0', '4',
            -1, -1));
        C.says("of each kept GREEN how many DEEDS (-1: missing);");
        x.keep(0);
        x.text(1, 0);
        x.undo(0);
        x.keep(2);
        C.due("digest() of two kept", x.digest(), hash(2, 10, 0, 0, 0, 2, 126, 1, 1, 0, 1, 2,
            1, 0, 0, 0, 0, 0, 0, 9, 5, 7, 9, 0, 0, 9, 0, 0, 4, 0, 1, 0, 1, -1, 0,
            -1, -1, -1, -1, -1, -1, -1, 0, -1, -1));
        C.says("of each ROW its size (-1: missing) and places, of each TEXT likewise.");
        Check.lay(none, 0, MIN);
        Check.lay(none, 3, -5, 6, MAX);
        none.row(5, 0);
        none.text(0, 2);
        none.put(0, 0, 200);
        none.text(3, 0);
        C.due("digest() of rows, texts", none.digest(), hash(0, 0, 0, 0, 0, 0, 0, 0, 0, 3, 2, 0,
            0, 0, 0, 0, 0, 0, 0, 0, -1, -1, -1, 1, MIN, -1, -1, 3, -5, 6, MAX, -1, 0, 2, -56, 32, -1, -1, 0));
        none.row(0, 3);
        none.row(0, 1);
        none.lay(0, 0, 7);
        none.at(0, 0);
        C.due("digest() of a row made smaller", none.digest(), hash(0, 0, 0, 0, 0, 0, 0, 0, 0, 3, 2, 0,
            0, 0, 0, 0, 0, 0, 0, 0, -1, -1, -1, 1, 7, -1, -1, 3, -5, 6, MAX, -1, 0, 2, -56, 32, -1, -1, 0));
        C.due("digest() tells nothing by asked()", none.asked(), 7);
    }
}
