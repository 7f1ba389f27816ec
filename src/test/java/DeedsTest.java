/** Promises 15 to 21 and 37: deeds, undone, kept, gone on from, by lots. */
public final class DeedsTest {
    private static final Check C = new Check();
    private static final int NOTHING = Check.NOTHING;
    private static final int MIN = Integer.MIN_VALUE, MAX = Integer.MAX_VALUE;
    private static final int[] NO_BOUGH = {-1, 8, MIN, MAX};
    private static final int[] NO_DEATH = {-1, 6, MIN, MAX};
    private static final int[] NO_PLACE = {-1, 3, MIN, MAX};
    private static final String SIX = Check.SIX;

    public static void main(String[] args) {
        morning();
        tell();
        water();
        prune();
        undo();
        keep();
        on();
        lots();
        C.end();
    }

    /** A green on which 39 deeds have been done: the next one is the last. */
    private static LimeDeaths nearlyFull() {
        LimeDeaths x = Check.full(SIX);
        x.undo(39);
        return x;
    }

    private static void morning() {
        C.promise(15);
        C.says("A MORNING: all LEAVES then.");
        LimeDeaths x = Check.green(SIX);
        C.due("morning 0", x.morning(), 36);
        C.boughs("morning 0", x, 4, 5, 4, 0, 2, 9, 5, 7);
        C.due("the next one's number", x.count(2), 1);
        C.due("deeds", x.count(3), 1);
        C.due("morning 1", x.morning(), 37);
        C.boughs("morning 1", x, 3, 3, 5, 0, 3, 9, 6, 8);
        C.due("the next one's number", x.count(2), 2);
        C.due("a tree all bare", Check.green("t00000000k00d10d20d30d40d50").morning(), 2);
        C.due("a tree all green", Check.green("t99999999f00").morning(), 72);
        C.says("STATE: no DEATHS;");
        LimeDeaths none = new LimeDeaths();
        C.refuses("morning without deaths", none, none::morning, LimeDeaths.STATE);
        C.says("FULL: 40 DEEDS.");
        LimeDeaths last = nearlyFull();
        C.due("morning as the last deed", last.morning(), 45);
        C.due("40 deeds", last.count(3), 40);
        C.due("the next would be morning 40", last.count(2), 40);
        C.refuses("morning full", last, last::morning, LimeDeaths.FULL);
        last.undo(39);
        C.due("one undone, there is room", last.morning(), 45);
        C.says("(FULL last.)");
        LimeDeaths anew = new LimeDeaths();
        C.refuses("without deaths it is STATE, never FULL", anew, anew::morning, LimeDeaths.STATE);
    }

    private static void tell() {
        C.promise(16);
        C.says("A DEATH is TOLD: how many LEAVES its BOUGH has then.");
        LimeDeaths x = Check.green(SIX);
        int[] order = {0, 1, 2, 3, 4, 5};
        int[] leaves = {4, 9, 2, 0, 9, 6};
        for (int i : order) {
            C.due("tell(" + i + ")", x.tell(i), leaves[i]);
            C.due("deeds", x.count(3), i + 1);
            C.due("told", x.count(4), (2 << i) - 1);
        }
        C.boughs("all told", x, 2, 9, 0, 6, 1, 9, 4, 6);
        C.due("no morning by it", x.count(2), 0);
        C.says("BAD;");
        for (int i : NO_DEATH) {
            C.bad("tell(" + i + ")", x, () -> x.tell(i));
        }
        LimeDeaths none = new LimeDeaths();
        C.bad("tell without deaths", none, () -> none.tell(0));
        LimeDeaths one = Check.green("t00000000d00");
        C.bad("tell(1) of one", one, () -> one.tell(1));
        C.says("STATE: it is TOLD, or can't be;");
        for (int i = 0; i < 6; i++) {
            int death = i;
            C.refuses("tell again " + i, x, () -> x.tell(death), LimeDeaths.STATE);
        }
        LimeDeaths y = Check.green(SIX);
        for (int i = 0; i < 5; i++) {
            C.refuses("tell a king, " + i + " told", y, () -> y.tell(5), LimeDeaths.STATE);
            y.tell(i);
        }
        C.due("tell a king last", y.tell(5), 6);
        C.says("FULL.");
        LimeDeaths last = nearlyFull();
        C.due("tell as the last deed", last.tell(1), 3);
        C.due("40 deeds", last.count(3), 40);
        C.refuses("tell full", last, () -> last.tell(0), LimeDeaths.FULL);
        C.says("(FULL last.)");
        C.bad("tell(6) full", last, () -> last.tell(6));
        C.refuses("tell again full", last, () -> last.tell(1), LimeDeaths.STATE);
        C.refuses("tell a king full", last, () -> last.tell(5), LimeDeaths.STATE);
    }

    private static void water() {
        C.promise(17);
        C.says("A BOUGH is watered: n (1 .. 9) LEAVES more: how many then.");
        LimeDeaths x = Check.green(SIX);
        C.due("water 1", x.water(3, 1), 1);
        C.due("water to 8", x.water(3, 7), 8);
        C.due("water to 9", x.water(3, 1), 9);
        C.due("water 9 to 9", Check.green(SIX).water(3, 9), 9);
        C.due("water beyond 9", x.water(7, 9), 9);
        C.due("water 8 by 2", Check.green("t80000000d00").water(0, 2), 9);
        C.boughs("watered", x, 5, 7, 3, 9, 1, 9, 4, 9);
        C.due("deeds", x.count(3), 4);
        C.due("no morning by it", x.count(2), 0);
        C.says("BAD;");
        LimeDeaths none = new LimeDeaths();
        for (int b : NO_BOUGH) {
            C.bad("water(" + b + ", 1)", x, () -> x.water(b, 1));
            C.bad("water(" + b + ", 1) without deaths, BAD ahead of STATE", none, () -> none.water(b, 1));
        }
        for (int n : new int[] {0, -1, 10, MIN, MAX}) {
            C.bad("water(4, " + n + ")", x, () -> x.water(4, n));
            C.bad("water(3, " + n + ") of 9, BAD ahead of STATE", x, () -> x.water(3, n));
        }
        C.says("STATE: no DEATHS, or it has 9;");
        C.refuses("water without deaths", none, () -> none.water(0, 1), LimeDeaths.STATE);
        C.refuses("water(3, 1) of 9", x, () -> x.water(3, 1), LimeDeaths.STATE);
        C.refuses("water(5, 9) of 9", x, () -> x.water(5, 9), LimeDeaths.STATE);
        C.says("FULL.");
        LimeDeaths last = nearlyFull();
        C.due("water as the last deed", last.water(0, 2), 2);
        C.due("40 deeds", last.count(3), 40);
        C.refuses("water full", last, () -> last.water(0, 1), LimeDeaths.FULL);
        C.says("(FULL last.)");
        C.refuses("water 9 full", last, () -> last.water(7, 1), LimeDeaths.STATE);
        C.bad("water(8, 1) full", last, () -> last.water(8, 1));
        C.bad("water(0, 0) full", last, () -> last.water(0, 0));
    }

    private static void prune() {
        C.promise(18);
        C.says("A BOUGH is pruned: how many LEAVES it had.");
        LimeDeaths x = Check.green(SIX);
        C.due("prune 9", x.prune(5), 9);
        C.due("prune 1", x.prune(4), 1);
        C.due("prune(7)", x.prune(7), 6);
        C.due("prune(0)", x.prune(0), 5);
        C.boughs("pruned", x, 0, 7, 3, 0, 0, 0, 4, 0);
        C.due("prune on a green of one death", Check.green("t90000000d70").prune(0), 9);
        C.due("deeds", x.count(3), 4);
        C.due("no morning by it", x.count(2), 0);
        C.says("BAD;");
        LimeDeaths none = new LimeDeaths();
        for (int b : NO_BOUGH) {
            C.bad("prune(" + b + ")", x, () -> x.prune(b));
            C.bad("prune(" + b + ") without deaths, BAD ahead of STATE", none, () -> none.prune(b));
        }
        C.says("STATE: no DEATHS, or it has none;");
        C.refuses("prune without deaths", none, () -> none.prune(0), LimeDeaths.STATE);
        C.refuses("prune one that was bare", x, () -> x.prune(3), LimeDeaths.STATE);
        C.refuses("prune one that is pruned", x, () -> x.prune(5), LimeDeaths.STATE);
        C.says("FULL.");
        LimeDeaths last = nearlyFull();
        C.due("prune as the last deed", last.prune(7), 9);
        C.due("40 deeds", last.count(3), 40);
        C.refuses("prune full", last, () -> last.prune(6), LimeDeaths.FULL);
        C.says("(FULL last.)");
        C.refuses("prune a bare one full", last, () -> last.prune(7), LimeDeaths.STATE);
        C.bad("prune(8) full", last, () -> last.prune(8));
    }

    private static void undo() {
        C.promise(19);
        C.says("DEEDS from number n on are undone: how many.");
        LimeDeaths x = Check.green(SIX);
        long[] digests = new long[6];
        digests[0] = x.digest();
        x.morning();
        digests[1] = x.digest();
        x.tell(1);
        digests[2] = x.digest();
        x.water(3, 2);
        digests[3] = x.digest();
        x.prune(0);
        digests[4] = x.digest();
        x.lots(1, 3);
        digests[5] = x.digest();
        C.refuses("undo none of five", x, () -> x.undo(5), 0);
        for (int n = 5; n > 0; n--) {
            C.due("digest of " + n, x.digest(), digests[n]);
            C.due("undo(" + (n - 1) + ")", x.undo(n - 1), 1);
        }
        C.due("digest of none", x.digest(), digests[0]);
        C.refuses("undo none of none", x, () -> x.undo(0), 0);
        LimeDeaths f = Check.full(SIX);
        C.due("undo the last of forty", f.undo(39), 1);
        C.due("undo all others", f.undo(0), 39);
        C.due("digest of all undone", f.digest(), digests[0]);
        C.due("a morning again", f.morning(), 36);
        C.due("its number", f.count(2), 1);
        f.tell(0);
        f.undo(1);
        C.due("what was undone can be told", f.tell(0), 3);
        C.due("undo without deaths", new LimeDeaths().undo(0), 0);
        C.says("BAD.");
        C.bad("undo(3) of two", f, () -> f.undo(3));
        for (int n : new int[] {-1, 41, MIN, MAX}) {
            C.bad("undo(" + n + ")", f, () -> f.undo(n));
        }
        LimeDeaths full = Check.full(SIX);
        C.bad("undo(41) of forty", full, () -> full.undo(41));
        LimeDeaths none = new LimeDeaths();
        C.bad("undo(1) without deaths", none, () -> none.undo(1));
    }

    private static void keep() {
        C.promise(20);
        C.says("The GREEN (as it is, DEEDS) is kept in a place (0 .. 2): how many DEEDS.");
        LimeDeaths x = Check.green(SIX);
        C.due("keep at first", x.keep(0), 0);
        C.due("one kept", x.count(11), 1);
        x.morning();
        x.tell(1);
        C.due("keep in the last place", x.keep(2), 2);
        C.due("two kept", x.count(11), 2);
        x.prune(0);
        C.due("keep in the middle", x.keep(1), 3);
        C.due("three kept", x.count(11), 3);
        long digest = x.digest();
        x.undo(0);
        x.morning();
        C.due("on as it was kept", x.on(1), 3);
        C.due("digest as kept", x.digest(), digest);
        C.due("keep anew", x.keep(0), 3);
        C.due("three still", x.count(11), 3);
        x.undo(0);
        C.due("kept anew", x.on(0), 3);
        C.due("told as kept", x.count(4), 2);
        LimeDeaths f = Check.full(SIX);
        C.due("keep forty", f.keep(0), 40);
        C.says("BAD;");
        LimeDeaths none = new LimeDeaths();
        for (int k : NO_PLACE) {
            C.bad("keep(" + k + ")", x, () -> x.keep(k));
            C.bad("keep(" + k + ") without deaths, BAD ahead of STATE", none, () -> none.keep(k));
        }
        C.says("STATE: no DEATHS.");
        for (int k = 0; k < 3; k++) {
            int place = k;
            C.refuses("keep without deaths", none, () -> none.keep(place), LimeDeaths.STATE);
        }
    }

    private static void on() {
        C.promise(21);
        C.says("The GREEN is as it was kept: how many DEEDS.");
        LimeDeaths x = Check.green(SIX);
        x.keep(0);
        x.morning();
        x.tell(1);
        x.water(3, 4);
        x.keep(2);
        long[] digests = new long[4];
        for (int n = 3; n >= 0; n--) {
            x.undo(n);
            digests[n] = x.digest();
        }
        x.prune(5);
        x.tell(0);
        C.due("on", x.on(2), 3);
        for (int n = 3; n >= 0; n--) {
            x.undo(n);
            C.due("deeds are as kept, to be undone to " + n, x.digest(), digests[n]);
        }
        C.due("on again: it is kept still", x.on(2), 3);
        C.due("as kept", x.digest(), digests[3]);
        C.due("gone on from", x.morning() > 0 ? x.count(3) : 0, 4);
        C.due("what is kept stays", x.on(2), 3);
        C.due("as kept", x.digest(), digests[3]);
        C.due("on at first", x.on(0), 0);
        C.due("as at first", x.digest(), digests[0]);
        LimeDeaths f = Check.full(SIX);
        f.keep(1);
        f.undo(0);
        C.due("on to forty", f.on(1), 40);
        C.refuses("full as kept", f, f::morning, LimeDeaths.FULL);
        C.says("BAD;");
        for (int k : NO_PLACE) {
            C.bad("on(" + k + ")", x, () -> x.on(k));
        }
        C.says("NOTHING.");
        C.finds("on(1)", x, () -> x.on(1), NOTHING);
        LimeDeaths none = new LimeDeaths();
        for (int k = 0; k < 3; k++) {
            int place = k;
            C.finds("on without deaths", none, () -> none.on(place), NOTHING);
        }
        x.green(0);
        C.finds("on behind green", x, () -> x.on(2), NOTHING);
    }

    /** The first seed from one on whose first lot goes a way, on a bough or of a death. */
    private static int seedFor(int way, int deathOf, int death, int bough) {
        for (int seed = 1; seed < 1000000; seed++) {
            long lot = seed * 48271L % 2147483647L;
            boolean isOne = lot / 8 % 8 == way && (deathOf == 0 || lot % deathOf == death);
            if (isOne && (bough < 0 || lot / 64 % 8 == bough)) {
                return seed;
            }
        }
        return 0;
    }

    private static void lots() {
        C.promise(37);
        C.says("n (1 .. 20) DEEDS truly by LOTS of a seed: for each a number:");
        LimeDeaths w = Check.green(SIX);
        // lots of 3, with what each by 8 modulo 8 is: 144813 (5: death 3), 547817382 (4: death 0), 1726701011 (2),
        // 1449194617 (7: bough 1), 1941039829 (2), 1222067049 (5: death 3, told already), 1170222836 (6: bough 3),
        // 416665868 (1)
        int[] sums = {32, 31, 34, 29, 34, 34, 36, 39};
        for (int n = 1; n <= sums.length; n++) {
            w.undo(0);
            C.due("lots(" + n + ", 3)", w.lots(n, 3), sums[n - 1]);
            C.due("lots(" + n + ", 3) deeds", w.count(3), n);
        }
        C.due("told", w.count(4), 9);
        C.due("mornings", w.count(2), 3);
        C.due("they can be undone", w.undo(0), 8);
        LimeDeaths twenty = Check.green(SIX);
        C.due("lots(20, 1)", twenty.lots(20, 1) >= 0 ? twenty.count(3) : 0, 20);
        C.says("by what it by 8, cut, modulo 8 is: 0 to 3 a MORNING,");
        for (int way = 0; way < 4; way++) {
            LimeDeaths x = Check.green(SIX);
            C.due("way " + way, x.lots(1, seedFor(way, 0, 0, -1)), 36);
            C.boughs("way " + way, x, 4, 5, 4, 0, 2, 9, 5, 7);
            C.due("a morning", x.count(2), 1);
        }
        lotsThatTell();
        lotsThatChange();
        lotsRefused();
    }

    private static void lotsThatTell() {
        C.says("4, 5 DEATH it modulo how many there are is TOLD (if it is not, and can be),");
        int[] sums = {34, 37, 32, 32, 37};
        for (int way = 4; way <= 5; way++) {
            for (int i = 0; i < 5; i++) {
                LimeDeaths x = Check.green(SIX);
                int seed = seedFor(way, 6, i, -1);
                C.due("way " + way + " tells " + i, x.lots(1, seed), sums[i]);
                C.due("way " + way + " told", x.count(4), 1 << i);
                C.due("told already: nothing changes", x.lots(1, seed), sums[i]);
                C.due("told once", x.count(4), 1 << i);
                C.due("two deeds", x.count(3), 2);
            }
            LimeDeaths k = Check.green(SIX);
            int seed = seedFor(way, 6, 5, -1);
            C.due("a king can't be told yet", k.lots(1, seed), 35);
            C.due("nothing told", k.count(4), 0);
            for (int i = 0; i < 5; i++) {
                k.tell(i);
            }
            C.due("a king can be told then", k.lots(1, seed), k.count(1));
            C.due("all told", k.count(4), 63);
            C.boughs("a king told by lot", k, 2, 9, 0, 6, 1, 9, 4, 6);
            LimeDeaths one = Check.green("t50000000d00");
            C.due("of one death it is that one", one.lots(1, seed), 4);
        }
    }

    private static void lotsThatChange() {
        C.says("6 the BOUGH that it by 64, cut, modulo 8 is is watered by 2 (9 at most),");
        int[] watered = {7, 9, 5, 2, 3, 9, 6, 8};
        int[] leaves = {5, 7, 3, 0, 1, 9, 4, 6};
        for (int b = 0; b < 8; b++) {
            LimeDeaths x = Check.green(SIX);
            C.due("lot waters " + b, x.lots(1, seedFor(6, 0, 0, b)), 35 - leaves[b] + watered[b]);
            C.due("watered " + b, Check.leaves(x, b), watered[b]);
            C.due("a deed, of 9 too", x.count(3), 1);
        }
        LimeDeaths eight = Check.green("t88888888d00");
        C.due("8 watered by 2", eight.lots(1, seedFor(6, 0, 0, 4)), 65);
        C.due("is 9", Check.leaves(eight, 4), 9);
        C.says("7 that one is pruned");
        for (int b = 0; b < 8; b++) {
            LimeDeaths x = Check.green(SIX);
            C.due("lot prunes " + b, x.lots(1, seedFor(7, 0, 0, b)), 35 - leaves[b]);
            C.due("pruned " + b, Check.leaves(x, b), 0);
        }
        C.says("(a DEED in any case):");
        int[] idle = {seedFor(4, 6, 5, -1), seedFor(5, 6, 5, -1), seedFor(6, 0, 0, 5), seedFor(7, 0, 0, 3)};
        for (int seed : idle) {
            LimeDeaths x = Check.green(SIX);
            C.due("a lot that changes nothing", x.lots(1, seed), 35);
            C.due("is a deed", x.count(3), 1);
            C.due("to be undone", x.undo(0), 1);
        }
        C.says("all LEAVES then.");
        LimeDeaths x = Check.green(SIX);
        int sum = x.lots(20, 12345);
        C.due("all leaves", sum, x.count(1));
    }

    private static void lotsRefused() {
        C.says("BAD;");
        LimeDeaths x = Check.green(SIX);
        LimeDeaths none = new LimeDeaths();
        for (int n : new int[] {0, -1, 21, MIN, MAX}) {
            C.bad("lots(" + n + ", 1)", x, () -> x.lots(n, 1));
            C.bad("lots(" + n + ", 1) without deaths, BAD ahead of STATE", none, () -> none.lots(n, 1));
        }
        for (int seed : new int[] {0, -1, MAX, MIN}) {
            C.bad("lots(1, " + seed + ")", x, () -> x.lots(1, seed));
            C.bad("lots(1, " + seed + ") without deaths, BAD ahead of STATE", none, () -> none.lots(1, seed));
        }
        // the greatest seed's first lot is 2147435376: by 8, modulo 8 is 6, by 64, modulo 8 is 5
        C.due("lots(1, 2147483646)", x.lots(1, 2147483646), 35);
        C.due("lots(1, 1)", Check.green(SIX).lots(1, 1), 36);
        C.says("STATE: no DEATHS;");
        C.refuses("lots without deaths", none, () -> none.lots(20, 1), LimeDeaths.STATE);
        C.says("FULL: with n more there would be more than 40 DEEDS.");
        LimeDeaths f = Check.green(SIX);
        f.lots(20, 7);
        C.due("twenty more are forty", f.lots(20, 8) >= 0 ? f.count(3) : 0, 40);
        C.refuses("one more", f, () -> f.lots(1, 1), LimeDeaths.FULL);
        f.undo(21);
        C.refuses("twenty more than 21", f, () -> f.lots(20, 1), LimeDeaths.FULL);
        C.due("none of them is done", f.count(3), 21);
        C.due("nineteen more than 21", f.lots(19, 1) >= 0 ? f.count(3) : 0, 40);
        f.undo(39);
        C.refuses("two more than 39", f, () -> f.lots(2, 1), LimeDeaths.FULL);
        C.due("one more than 39", f.lots(1, 1) >= 0 ? f.count(3) : 0, 40);
        C.says("(FULL last.)");
        C.bad("lots(21, 1) full", f, () -> f.lots(21, 1));
        C.bad("lots(1, 0) full", f, () -> f.lots(1, 0));
    }
}
