/** Promises 15 to 21 and 37: deeds, undone, kept, gone on from, by lots. */
public final class DeedsTest {
    private static final Check C = new Check();
    private static final int NOTHING = 1;
    private static final String SIX = "t57301946 d05g17f00b23s14k39";

    public static void main(String[] args) {
        mornings();
        tellings();
        waterings();
        prunings();
        undoings();
        keepings();
        fortieth();
        lots();
        C.end();
    }

    private static LimeDeaths full() {
        LimeDeaths x = Check.green(SIX);
        for (int k = 0; k < 40; k++) {
            C.due("morning " + k, x.morning() >= 0 ? 1 : 0, 1);
        }
        return x;
    }

    private static void mornings() {
        LimeDeaths x = Check.green(SIX);
        C.due("morning", x.morning(), 36);
        C.due("next morning", x.count(2), 1);
        C.due("deeds", x.count(3), 1);
        C.due("morning", x.morning(), 37);
        LimeDeaths f = full();
        C.due("40 deeds", f.count(3), 40);
        C.due("morning 40", f.count(2), 40);
        C.refuses("morning full", f, f::morning, LimeDeaths.FULL);
        LimeDeaths none = new LimeDeaths();
        C.refuses("morning without deaths", none, none::morning, LimeDeaths.STATE);
    }

    private static void tellings() {
        LimeDeaths x = Check.green(SIX);
        C.refuses("tell a king early", x, () -> x.tell(5), LimeDeaths.STATE);
        C.due("tell death", x.tell(0), 4);
        C.due("tell good", x.tell(1), 9);
        C.due("tell false", x.tell(2), 2);
        C.due("tell beast", x.tell(3), 0);
        C.refuses("tell a king early", x, () -> x.tell(5), LimeDeaths.STATE);
        C.due("tell soldier", x.tell(4), 9);
        C.due("tell king", x.tell(5), 6);
        C.refuses("tell again", x, () -> x.tell(0), LimeDeaths.STATE);
        C.refuses("tell king again", x, () -> x.tell(5), LimeDeaths.STATE);
        C.refuses("tell(6)", x, () -> x.tell(6), LimeDeaths.BAD);
        C.refuses("tell(-1)", x, () -> x.tell(-1), LimeDeaths.BAD);
        LimeDeaths kings = Check.green("t00000000k00k01");
        C.due("tell the second king", kings.tell(1), 2);
        C.due("tell the first king", kings.tell(0), 2);
        LimeDeaths f = full();
        C.refuses("tell full", f, () -> f.tell(0), LimeDeaths.FULL);
        C.refuses("tell king full", f, () -> f.tell(5), LimeDeaths.STATE);
        LimeDeaths none = new LimeDeaths();
        C.refuses("tell without deaths", none, () -> none.tell(0), LimeDeaths.BAD);
    }

    private static void waterings() {
        LimeDeaths x = Check.green(SIX);
        C.due("water", x.water(3, 4), 4);
        C.due("water 9 at most", x.water(3, 9), 9);
        C.refuses("water of 9", x, () -> x.water(3, 1), LimeDeaths.STATE);
        C.refuses("water(8, 1)", x, () -> x.water(8, 1), LimeDeaths.BAD);
        C.refuses("water(-1, 1)", x, () -> x.water(-1, 1), LimeDeaths.BAD);
        C.refuses("water(3, 0)", x, () -> x.water(3, 0), LimeDeaths.BAD);
        C.refuses("water(3, 10)", x, () -> x.water(3, 10), LimeDeaths.BAD);
        LimeDeaths f = full();
        C.refuses("water full", f, () -> f.water(0, 1), LimeDeaths.FULL);
        C.refuses("water full of 9", f, () -> f.water(7, 1), LimeDeaths.STATE);
        LimeDeaths none = new LimeDeaths();
        C.refuses("water without deaths", none, () -> none.water(0, 1), LimeDeaths.STATE);
    }

    private static void prunings() {
        LimeDeaths x = Check.green(SIX);
        C.due("prune", x.prune(5), 9);
        C.due("pruned", x.count(1), 26);
        C.refuses("prune a bare one", x, () -> x.prune(5), LimeDeaths.STATE);
        C.refuses("prune(8)", x, () -> x.prune(8), LimeDeaths.BAD);
        C.refuses("prune(-1)", x, () -> x.prune(-1), LimeDeaths.BAD);
        LimeDeaths f = full();
        C.refuses("prune full", f, () -> f.prune(7), LimeDeaths.FULL);
        C.refuses("prune a bare one full", f, () -> f.prune(0), LimeDeaths.STATE);
        LimeDeaths none = new LimeDeaths();
        C.refuses("prune without deaths", none, () -> none.prune(0), LimeDeaths.STATE);
    }

    private static LimeDeaths ahead() {
        LimeDeaths x = full();
        x.undo(39);
        return x;
    }

    private static void fortieth() {
        C.due("tell as the last deed", ahead().tell(1), 3);
        C.due("water as the last deed", ahead().water(0, 2), 2);
        C.due("prune as the last deed", ahead().prune(7), 9);
        C.due("morning as the last deed", ahead().morning(), 45);
        C.due("a lot as the last deed", ahead().lots(1, 1), 45);
    }

    private static void undoings() {
        LimeDeaths x = Check.green(SIX);
        long[] digests = new long[6];
        digests[0] = x.digest();
        x.morning();
        digests[1] = x.digest();
        x.tell(1);
        digests[2] = x.digest();
        x.water(3, 2);
        digests[3] = x.digest();
        x.prune(0);
        digests[4] = x.digest();
        C.refuses("undo(5) of 4", x, () -> x.undo(5), LimeDeaths.BAD);
        C.refuses("undo(-1)", x, () -> x.undo(-1), LimeDeaths.BAD);
        C.due("undo none", x.undo(4), 0);
        for (int n = 4; n > 0; n--) {
            C.due("digest of " + n, x.digest(), digests[n]);
            C.due("undo(" + (n - 1) + ")", x.undo(n - 1), 1);
        }
        C.due("digest of none", x.digest(), digests[0]);
        LimeDeaths f = full();
        C.due("undo all", f.undo(0), 40);
        C.due("digest of all undone", f.digest(), digests[0]);
        C.due("on again", f.morning(), 36);
    }

    private static void keepings() {
        LimeDeaths x = Check.green(SIX);
        C.due("keep at first", x.keep(0), 0);
        x.morning();
        x.tell(1);
        C.due("keep", x.keep(2), 2);
        C.due("count(11)", x.count(11), 2);
        long digest = x.digest();
        x.water(3, 9);
        x.undo(1);
        C.due("on", x.on(2), 2);
        C.due("digest as kept", x.digest(), digest);
        C.due("undo behind on", x.undo(1), 1);
        C.due("not told then", x.count(4), 0);
        C.due("on at first", x.on(0), 0);
        C.due("as at first", x.count(1), 35);
        C.due("on again", x.on(2), 2);
        C.due("keep anew", x.keep(0), 2);
        x.undo(0);
        C.due("kept anew", x.on(0), 2);
        C.finds("on(1)", x, () -> x.on(1), NOTHING);
        C.refuses("on(3)", x, () -> x.on(3), LimeDeaths.BAD);
        C.refuses("on(-1)", x, () -> x.on(-1), LimeDeaths.BAD);
        C.refuses("keep(3)", x, () -> x.keep(3), LimeDeaths.BAD);
        C.refuses("keep(-1)", x, () -> x.keep(-1), LimeDeaths.BAD);
        x.keep(1);
        x.green(0);
        for (int k = 0; k < 3; k++) {
            int place = k;
            C.finds("on behind green", x, () -> x.on(place), NOTHING);
        }
        LimeDeaths none = new LimeDeaths();
        C.refuses("keep without deaths", none, () -> none.keep(0), LimeDeaths.STATE);
        C.finds("on without deaths", none, () -> none.on(0), NOTHING);
    }

    private static void lots() {
        // 48271 by 8 is 6033, modulo 8 is 1: a morning
        LimeDeaths x = Check.green(SIX);
        C.due("lots(1, 1)", x.lots(1, 1), 36);
        C.due("lots deeds", x.count(3), 1);
        // 182605794 by 8 is 22825724, modulo 8 is 4: death 182605794 modulo 6 is 0
        C.due("lots(2, 1) tells", Check.green(SIX).lots(2, 1), 35);
        // lots of 3, with what each by 8 modulo 8 is: 144813 (5: death 3), 547817382 (4: death 0), 1726701011 (2),
        // 1449194617 (7: bough 1), 1941039829 (2), 1222067049 (5: death 3, told already), 1170222836 (6: bough 3),
        // 416665868 (1)
        LimeDeaths w = Check.green(SIX);
        int[] sums = {32, 31, 34, 29, 34, 34, 36, 39};
        for (int n = 1; n <= sums.length; n++) {
            w.undo(0);
            C.due("lots(" + n + ", 3)", w.lots(n, 3), sums[n - 1]);
            C.due("lots(" + n + ", 3) deeds", w.count(3), n);
        }
        C.due("lots told", w.count(4), 9);
        C.due("lots mornings", w.count(2), 3);
        // a lone king is told once; all other such lots are deeds without effect
        LimeDeaths k = Check.green("t00000000k00");
        C.due("lots(20, 7) sums", k.lots(20, 7) >= 0 ? 1 : 0, 1);
        C.due("lots are deeds in any case", k.count(3), 20);
        C.due("lots(20, max)", k.lots(20, 2147483646) >= 0 ? 1 : 0, 1);
        C.due("40 deeds", k.count(3), 40);
        C.refuses("lots full", k, () -> k.lots(1, 1), LimeDeaths.FULL);
        k.undo(21);
        C.refuses("lots beyond full", k, () -> k.lots(20, 1), LimeDeaths.FULL);
        C.due("lots to full", k.lots(19, 1) >= 0 ? 1 : 0, 1);
        C.refuses("lots(0, 1)", x, () -> x.lots(0, 1), LimeDeaths.BAD);
        C.refuses("lots(21, 1)", x, () -> x.lots(21, 1), LimeDeaths.BAD);
        C.refuses("lots(1, 0)", x, () -> x.lots(1, 0), LimeDeaths.BAD);
        C.refuses("lots(1, max)", x, () -> x.lots(1, Integer.MAX_VALUE), LimeDeaths.BAD);
        LimeDeaths none = new LimeDeaths();
        C.refuses("lots without deaths", none, () -> none.lots(1, 1), LimeDeaths.STATE);
    }
}
