import java.util.function.IntSupplier;
import java.util.function.ToIntFunction;

/** What the document says under "What it is" and "Terms", sentence by sentence. */
public final class TermsTest {
    private static final Check C = new Check();
    private static final int NOTHING = Check.NOTHING, BEYOND = Check.BEYOND, UNLIKE = Check.UNLIKE;
    private static final int NOUGHT = Check.NOUGHT, SIZE = Check.SIZE;
    private static final int BAD = LimeDeaths.BAD, FULL = LimeDeaths.FULL, STATE = LimeDeaths.STATE;
    private static final int FINDING = LimeDeaths.FINDING, NONE = LimeDeaths.NONE;
    private static final String SIX = Check.SIX;

    public static void main(String[] args) {
        calls();
        C.part("terms", "\n## Terms", "\nAhead of the calls");
        refusals();
        findings();
        ratios();
        rowsAndTexts();
        greens();
        faults();
        kinds();
        tellings();
        mornings();
        deeds();
        lots();
        C.end();
    }

    private static void calls() {
        C.part("what it is", "======== ANSWERS.\n", "\n## ");
        C.says("An object is used for at most 512 calls after it has been made;");
        LimeDeaths x = new LimeDeaths();
        int calls = 1 + SIX.length() + 1;
        Check.write(x, 0, SIX);
        x.green(0);
        for (; calls < 510; calls++) {
            x.leaves(calls % 41);
        }
        C.due("call 511", x.morning(), 36);
        C.due("call 512", x.tell(0), 3);
        C.says("what later calls answer is free.");
        for (int k = 0; k < 5000; k++) {
            x.at(k % 7 - 1, k % 50 - 5);
            x.lots(1 + k % 20, k + 1);
            x.undo(k % 41);
        }
        C.due("they end, and throw nothing", 1, 1);
    }

    // refusals

    /** A call that more than one refusal fits answers the first of them. */
    private static void answers(String call, int got, int want) {
        C.due(call, got, want);
    }

    private static void refusals() {
        C.says("Refused is, the first of these that fits, in this order: BAD -1 (a number that is none, or not as told),");
        C.due("BAD", BAD, -1);
        LimeDeaths none = new LimeDeaths();
        LimeDeaths full = Check.full(SIX);
        answers("BAD ahead of STATE", none.water(8, 1), -1);
        answers("BAD ahead of STATE, not as told", none.leaves(41), -1);
        answers("BAD ahead of FULL", full.prune(8), -1);
        answers("BAD ahead of a finding", none.row(6, -1), -1);
        C.says("FULL -2,");
        C.due("FULL", FULL, -2);
        answers("FULL", full.tell(0), -2);
        C.says("STATE -4 (not now),");
        C.due("STATE", STATE, -4);
        answers("STATE ahead of a finding", none.about(0, 0), -4);
        answers("STATE", none.keep(0), -4);
        C.says("SPENT -6 (more than told),");
        C.due("SPENT", LimeDeaths.SPENT, -6);
        C.says("FINDING -3 (finding() tells which),");
        C.due("FINDING", FINDING, -3);
        answers("a finding", none.at(0, 0), -3);
        C.due("finding()", none.finding(), 1);
        C.says("unless a call says so otherwise.");
        answers("STATE ahead of FULL: full last", full.tell(5), -4);
        answers("a finding ahead of STATE: a text that is missing", none.green(0), -3);
        C.says("NONE -9.");
        C.due("NONE", NONE, -9);
        answers("NONE", full.bare(7), -9);
        C.says("What is refused changes nothing but finding(), findings().");
        refusedOnes();
        fullOnes();
        freshOnes();
    }

    /** Five deeds on SIX, all places kept in some way, rows, a text with a fault, numbers told. */
    private static LimeDeaths busy() {
        LimeDeaths x = Check.green(SIX);
        x.keep(0);
        x.morning();
        x.tell(1);
        x.keep(1);
        x.water(2, 4);
        x.prune(0);
        x.lots(1, 3);
        Check.write(x, 1, "t00000000d0x");
        Check.lay(x, 0, 9, 9, 9);
        Check.lay(x, 1);
        Check.lay(x, 2, 10, 10);
        Check.lay(x, 3, 1, 2, 3);
        x.odds(1, 9, 4);
        x.at(3, 1);
        return x;
    }

    /** All that can be seen of an object: it is taken apart by this. */
    private static long whole(LimeDeaths x) {
        long h = 31 * (31 * (31 * x.digest() + x.asked()) + x.upper()) + x.lower();
        for (int k = 0; k < 4; k++) {
            int deeds = k == 0 ? x.count(3) : x.on(k - 1);
            for (int n = deeds; n >= 0; n--) {
                x.undo(n);
                h = 31 * h + x.digest();
            }
        }
        return h;
    }

    private static void same(String call, LimeDeaths x, LimeDeaths twin, ToIntFunction<LimeDeaths> run, int want) {
        C.due(call, run.applyAsInt(x), want);
        C.due(call + " changes nothing", whole(x), whole(twin));
    }

    private static void busyRefuses(String call, ToIntFunction<LimeDeaths> run, int want) {
        same(call, busy(), busy(), run, want);
    }

    private static void refusedOnes() {
        busyRefuses("row", x -> x.row(0, 41), BAD);
        busyRefuses("row", x -> x.row(0, -1), FINDING);
        busyRefuses("lay", x -> x.lay(0, 3, 5), FINDING);
        busyRefuses("lay", x -> x.lay(6, 0, 5), BAD);
        busyRefuses("at", x -> x.at(0, 3), FINDING);
        busyRefuses("tear", x -> x.tear(5), FINDING);
        busyRefuses("copy", x -> x.copy(3, 0, 0, 1, 3), FINDING);
        busyRefuses("copy", x -> x.copy(3, 1, 0, 0, 3), FINDING);
        busyRefuses("copy", x -> x.copy(3, 0, 0, 0, -1), FINDING);
        busyRefuses("mean", x -> x.mean(1), FINDING);
        busyRefuses("text", x -> x.text(0, 61), BAD);
        busyRefuses("text", x -> x.text(0, -1), FINDING);
        busyRefuses("put", x -> x.put(0, 28, 5), FINDING);
        busyRefuses("fault", x -> x.fault(3), FINDING);
        busyRefuses("green", x -> x.green(1), STATE);
        busyRefuses("green", x -> x.green(3), FINDING);
        busyRefuses("bough", x -> x.bough(0, 3), BAD);
        busyRefuses("death", x -> x.death(0, 6), BAD);
        busyRefuses("mark", x -> x.mark(0, 1), FINDING);
        busyRefuses("tell", x -> x.tell(1), STATE);
        busyRefuses("tell", x -> x.tell(5), STATE);
        busyRefuses("water", x -> x.water(5, 1), STATE);
        busyRefuses("prune", x -> x.prune(0), STATE);
        busyRefuses("undo", x -> x.undo(6), BAD);
        busyRefuses("undo", x -> x.undo(-1), BAD);
        busyRefuses("keep", x -> x.keep(3), BAD);
        busyRefuses("on", x -> x.on(2), FINDING);
        busyRefuses("answers", x -> x.answers(0, 0, 10), BAD);
        busyRefuses("leaves", x -> x.leaves(41), BAD);
        busyRefuses("bare", x -> x.bare(8), BAD);
        busyRefuses("round", x -> x.round(2, 0), STATE);
        busyRefuses("round, NONE", x -> x.round(32, 0), NONE);
        busyRefuses("plan", x -> x.plan(0, 10, 0), BAD);
        busyRefuses("plan, NONE", x -> x.plan(6, 9, 0), NONE);
        for (int r : new int[] {1, 2, 5}) {
            busyRefuses("about", x -> x.about(0, r), FINDING);
            busyRefuses("sure", x -> x.sure(0, r), FINDING);
            busyRefuses("next", x -> x.next(0, r), FINDING);
        }
        busyRefuses("next, NONE", x -> x.next(0, 0), NONE);
        for (int r : new int[] {2, 3, 5}) {
            busyRefuses("worths", x -> x.worths(0, r), FINDING);
            busyRefuses("kinds", x -> x.kinds(0, r), FINDING);
        }
        busyRefuses("sets", x -> x.sets(55), BAD);
        busyRefuses("surely", x -> x.surely(54), FINDING);
        busyRefuses("duel", x -> x.duel(3), BAD);
        busyRefuses("odds", x -> x.odds(0, 0, 13), BAD);
        busyRefuses("mid", x -> x.mid(13), BAD);
        busyRefuses("lots", x -> x.lots(21, 1), BAD);
        busyRefuses("count", x -> x.count(12), BAD);
        busyRefuses("findings", x -> x.findings(6), BAD);
    }

    private static void fullOnes() {
        LimeDeaths twin = Check.full(SIX);
        long want = whole(twin);
        IntSupplier[] calls = new IntSupplier[5];
        for (int k = 0; k < calls.length; k++) {
            LimeDeaths x = Check.full(SIX);
            calls[0] = x::morning;
            calls[1] = () -> x.tell(0);
            calls[2] = () -> x.water(0, 1);
            calls[3] = () -> x.prune(7);
            calls[4] = () -> x.lots(1, 1);
            C.due("full call " + k, calls[k].getAsInt(), FULL);
            C.due("full call " + k + " changes nothing", whole(x), want);
        }
    }

    private static void freshOnes() {
        LimeDeaths x = new LimeDeaths();
        int[] got = {x.bough(0, 0), x.morning(), x.water(0, 1), x.prune(0), x.keep(0), x.leaves(0), x.bare(0),
            x.round(0, 0), x.plan(0, 0, 0), x.about(0, 0), x.sure(0, 0), x.next(0, 0), x.sets(0), x.surely(0),
            x.duel(0), x.odds(0, 0, 0), x.mid(0), x.lots(1, 1)};
        for (int k = 0; k < got.length; k++) {
            C.due("call " + k + " without deaths", got[k], STATE);
        }
        C.due("they change nothing", whole(x), whole(new LimeDeaths()));
    }

    private static void findings() {
        LimeDeaths x = busy();
        C.says("FINDINGS: 1 NOTHING (a ROW, a TEXT, a kept GREEN that is missing),");
        C.finds("a row", x, () -> x.at(5, 0), NOTHING);
        C.finds("a text", x, () -> x.fault(3), NOTHING);
        C.finds("a kept green", x, () -> x.on(2), NOTHING);
        C.says("2 BEYOND (a place of a ROW, a TEXT that there is not),");
        C.finds("a place of a row", x, () -> x.at(3, 3), BEYOND);
        C.finds("a place of a text", x, () -> x.put(0, 28, 0), BEYOND);
        C.says("3 UNLIKE (a DEATH of another KIND; a number that is none),");
        C.finds("a death of another kind", x, () -> x.mark(0, 5), UNLIKE);
        C.finds("a number that is none", x, () -> x.kinds(0, 2), UNLIKE);
        C.says("4 NOUGHT (shared among none; nothing fits),");
        C.finds("shared among none", x, () -> x.mean(1), NOUGHT);
        C.finds("nothing fits", x, () -> x.surely(54), NOUGHT);
        C.says("5 SIZE (fewer than none; too many, not as many as due).");
        C.finds("fewer than none", x, () -> x.text(0, -1), SIZE);
        x.row(4, 11);
        C.finds("too many", x, () -> x.about(0, 4), SIZE);
        C.finds("not as many as due", x, () -> x.worths(0, 3), SIZE);
    }

    private static void ratios() {
        C.says("Chances, means, numbers of sets are told by upper(), lower(), in lowest terms,");
        LimeDeaths x = Check.green("t22222222d00d10d20d30d40d50");
        C.ratio("a chance", x, () -> x.odds(0, 2, 4), 2, 3);
        C.ratio("a mean", x, () -> x.mid(4), 14, 1);
        C.ratio("another mean", x, () -> x.mid(1), 31, 2);
        C.ratio("sets", x, () -> x.sets(0), 64, 1);
        C.says("the lower number above 0 (0 by 1).");
        C.ratio("no chance", x, () -> x.odds(0, 3, 4), 0, 1);
        C.ratio("no sets", x, () -> x.sets(1), 0, 1);
        LimeDeaths bare = Check.green("t00000000d00");
        C.ratio("a mean of none", bare, () -> bare.mid(5), 0, 1);
        C.says("Sets (of DEATHS, of KINDS, of WORTHS 0 .. 9) are told by bits.");
        LimeDeaths y = Check.green(SIX);
        y.tell(0);
        y.tell(3);
        C.due("of deaths", y.count(4), 1 + 8);
        Check.lay(y, 0, 9, 9);
        C.due("of kinds", y.kinds(2, 0), 2 + 16 + 32);
        Check.lay(y, 0, 0, 3);
        C.due("of worths", y.worths(1, 0), 128 + 256 + 512);
    }

    private static void rowsAndTexts() {
        C.says("ROWS 0 .. 5 are rows of 0 to 40 ints,");
        LimeDeaths x = new LimeDeaths();
        C.due("six rows", x.row(0, 0) + x.row(5, 40), 40);
        C.due("no seventh", x.row(6, 0), BAD);
        C.due("no forty-first int", x.row(5, 41), BAD);
        C.says("TEXTS 0 .. 3 rows of 0 to 60 bytes,");
        C.due("four texts", x.text(0, 0) + x.text(3, 60), 60);
        C.due("no fifth", x.text(4, 0), BAD);
        C.due("no sixty-first byte", x.text(3, 61), BAD);
        C.says("or missing (at first).");
        LimeDeaths none = new LimeDeaths();
        C.due("rows at first", none.count(9), 0);
        C.due("texts at first", none.count(10), 0);
    }

    // greens

    /** A fault of a text; and green() goes by it. */
    private static void fault(String text, int want) {
        LimeDeaths x = Check.write(new LimeDeaths(), 2, text);
        C.due("fault of '" + text + "'", x.fault(2), want);
        C.due("green of '" + text + "'", x.green(2) > 0 ? 1 : 0, want == NONE ? 1 : 0);
    }

    /** Which of all 256 bytes at a place of a text are no fault there; the places behind may be. */
    private static void bytes(String text, int place, String fine) {
        LimeDeaths x = Check.write(new LimeDeaths(), 0, text);
        for (int v = 0; v < 256; v++) {
            x.put(0, place, v);
            boolean isFine = fine.indexOf(v) >= 0;
            int fault = x.fault(0);
            C.due("byte " + v + " at " + place + " of '" + text + "'", fault == place ? 1 : 0, isFine ? 0 : 1);
        }
        x.put(0, place, fine.charAt(0) + 256);
        C.due("cut to a byte it is fine", x.fault(0) == place ? 1 : 0, 0);
    }

    private static void greens() {
        C.says("A GREEN (without DEATHS at first) is a TEXT:");
        C.due("no deaths at first", new LimeDeaths().count(0), 0);
        C.due("six deaths", Check.green(SIX).count(0), 6);
        C.says("blanks (32) ahead, between, behind as many as wanted,");
        fault("t01234567d00k79", NONE);
        fault(" t01234567 d00 k79 ", NONE);
        fault("    t01234567     d00         k79          ", NONE);
        fault(" ".repeat(48) + "t01234567d79", NONE);
        fault("t01234567" + " ".repeat(48) + "d79", NONE);
        fault("t01234567d79" + " ".repeat(48), NONE);
        for (int other : new int[] {0, 9, 10, 13, 31, 33, 160}) {
            fault("t01234567" + (char) other + "d79", 9);
            fault((char) other + "t01234567d79", 0);
            fault("t01234567d79" + (char) other, 12);
        }
        C.says("none within items.");
        fault("t 01234567d00", 1);
        fault("t0 1234567d00", 2);
        fault("t0123456 7d00", 8);
        fault("t01234567d 00", 10);
        fault("t01234567d0 0", 11);
        C.says("First t (116) and the LEAVES of BOUGHS 0 .. 7 (0 .. 9, eight figures).");
        bytes("t01234567d00", 0, "t ");
        for (int place = 1; place <= 8; place++) {
            bytes("t01234567d00", place, "0123456789");
        }
        C.boughs("leaves as they come", Check.green("t90817263d00"), 9, 0, 8, 1, 7, 2, 6, 3);
        fault("t012345678d00", 9);
        fault("t0123456d00", 8);
        fault("d00t01234567", 0);
        fault("t01234567t01234567d00", 9);
        deaths();
    }

    private static void deaths() {
        C.says("Then DEATHS (1 to 6; 0, 1, .. as they come):");
        fault("t01234567", 9);
        fault("t01234567d00", NONE);
        fault("t01234567d00g11f22b33s44k55", NONE);
        LimeDeaths x = Check.green("t01234567 k71 d02 g13");
        int[][] facts = {{5, 7, 1}, {0, 0, 2}, {1, 1, 3}};
        for (int i = 0; i < 3; i++) {
            for (int what = 0; what < 3; what++) {
                C.due("death(" + i + ", " + what + ")", Check.told(x, x.death(i, what)), facts[i][what]);
            }
        }
        C.says("a letter, the BOUGH (0 .. 7), the WORTH (0 .. 9), one figure each.");
        bytes("t01234567d00", 9, "dgfbsk ");
        bytes("t01234567d00", 10, "01234567");
        bytes("t01234567d00", 11, "0123456789");
        fault("t01234567d000", 12);
        fault("t01234567dd00", 10);
        fault("t0123456700d", 9);
        fault("t01234567D00", 9);
    }

    private static void faults() {
        C.says("A FAULT is the first place at which it can't go on so (a letter, a figure that is none such,");
        fault("x01234567x99", 0);
        fault("t0x234567x99", 2);
        fault("t01234567x99", 9);
        fault("t01234567d99", 10);
        fault("t01234567d9", 10);
        fault("  t01234567  d00  x", 18);
        fault("t01234567d00d00d00d80", 19);
        C.says("a seventh DEATH: its place;");
        String six = "t01234567d00d00d00d00d00d00";
        fault(six, NONE);
        fault(six + "     ", NONE);
        fault(six + "d00", 27);
        fault(six + "   d00", 30);
        fault(six + "d", 27);
        fault(six + "x", 27);
        fault(six + " k00 ", 28);
        C.says("the TEXT's size, if its end comes too early,");
        for (int n = 0; n < 12; n++) {
            fault("t01234567d00".substring(0, n), n);
            fault(" ".repeat(60 - n) + "t01234567d00".substring(0, n), 60);
        }
        fault("t01234567d00d", 13);
        fault("t01234567d00 d7", 15);
        fault("t01234567   ", 12);
        fault(six.substring(0, 25), 25);
        C.says("or there are blanks alone).");
        for (int n = 0; n <= 60; n++) {
            fault(" ".repeat(n), n);
        }
    }

    private static void kinds() {
        C.says("KINDS of DEATHS and letters: 0 DEATH (d, 100),");
        LimeDeaths x = new LimeDeaths();
        Check.write(x, 0, "t00000000 00 00 00 00 00 00");
        int[] letters = {100, 103, 102, 98, 115, 107};
        for (int kind = 0; kind < 6; kind++) {
            x.put(0, 9 + 3 * kind, letters[kind]);
        }
        C.due("six kinds", x.green(0), 6);
        C.due("a death's kind", Check.told(x, x.death(0, 0)), 0);
        isOf(x, 0);
        String[] said = {"", "1 GOOD (g, 103; a DEATH),", "2 FALSE (f, 102; a DEATH),", "3 BEAST (b, 98; a DEATH),",
            "4 SOLDIER (s, 115; a GOOD one),", "5 KING (k, 107; a GOOD one)."};
        for (int kind = 1; kind < 6; kind++) {
            C.says(said[kind]);
            C.due("its kind", Check.told(x, x.death(kind, 0)), kind);
            if (kind >= 4) {
                isOf(x, kind, 1, kind);
            } else {
                isOf(x, kind, kind);
            }
        }
    }

    /** Of which kinds (but 0) a death is, by mark(). */
    private static void isOf(LimeDeaths x, int i, int... kinds) {
        for (int kind = 1; kind < 6; kind++) {
            boolean is = false;
            for (int one : kinds) {
                is |= one == kind;
            }
            C.due("death " + i + " is of kind " + kind, x.mark(i, kind) == FINDING ? 0 : 1, is ? 1 : 0);
        }
    }

    // what tellings and mornings do

    private static int toldLeaves(int leaves, String death) {
        LimeDeaths x = Check.green("t0000000" + leaves + death);
        int answer = x.tell(0);
        C.due("the bough has as many", Check.leaves(x, 7), answer);
        return answer;
    }

    private static void tellings() {
        int[] more = {0, 1, 1, 1, 2, 2, 2, 3, 3, 3};
        C.says("TOLD of a DEATH its BOUGH has 1 LEAF less (0 at least);");
        for (int n = 0; n <= 9; n++) {
            C.due("a death, of " + n, toldLeaves(n, "d79"), n == 0 ? 0 : n - 1);
        }
        C.says("of a GOOD one as many more as its WORTH and 2 by 3 (cut; 9 at most);");
        for (int worth = 0; worth <= 9; worth++) {
            for (int n = 0; n <= 9; n++) {
                C.due("a good one of " + worth, toldLeaves(n, "g7" + worth), Math.min(9, n + more[worth]));
            }
        }
        C.says("of a FALSE one half of them (cut);");
        int[] half = {0, 0, 1, 1, 2, 2, 3, 3, 4, 4};
        for (int n = 0; n <= 9; n++) {
            C.due("a false one, of " + n, toldLeaves(n, "f79"), half[n]);
        }
        C.says("of a BEAST none;");
        for (int n = 0; n <= 9; n++) {
            C.due("a beast, of " + n, toldLeaves(n, "b79"), 0);
        }
        C.says("of a SOLDIER as of a GOOD one, and 1 more (9 at most);");
        for (int worth = 0; worth <= 9; worth++) {
            for (int n = 0; n <= 9; n++) {
                C.due("a soldier of " + worth, toldLeaves(n, "s7" + worth), Math.min(9, n + more[worth] + 1));
            }
        }
        C.says("of a KING as of two GOOD ones like it, one behind the other.");
        for (int worth = 0; worth <= 9; worth++) {
            for (int n = 0; n <= 9; n++) {
                C.due("a king of " + worth, toldLeaves(n, "k7" + worth), Math.min(9, n + 2 * more[worth]));
            }
        }
        kings();
        haunting();
    }

    private static void kings() {
        C.says("A KING can't be TOLD, as long as there is one that is no KING and not TOLD.");
        for (char letter : "dgfbs".toCharArray()) {
            LimeDeaths x = Check.green("t00000000k00" + letter + "10k20");
            C.refuses("a king ahead of " + letter, x, () -> x.tell(0), STATE);
            C.refuses("another king", x, () -> x.tell(2), STATE);
            x.tell(1);
            C.due("a king behind " + letter, x.tell(2), 0);
            C.due("another king", x.tell(0), 0);
        }
        LimeDeaths kings = Check.green("t00000000k01k01");
        C.due("kings alone, in any order", kings.tell(1), 2);
        C.due("kings alone, in any order", kings.tell(0), 4);
        LimeDeaths undone = Check.green("t00000000d10k01");
        undone.tell(0);
        undone.undo(0);
        C.refuses("what was undone is not told", undone, () -> undone.tell(1), STATE);
    }

    private static void haunting() {
        C.says("A DEATH that is not TOLD is ABOUT: it HAUNTS its BOUGH by 1,");
        C.due("a death", haunted("d70"), 1);
        LimeDeaths x = Check.green("t00000000d70");
        x.tell(0);
        C.due("told it does not haunt", Check.told(x, x.bough(7, 2)), 0);
        C.says("a FALSE one, a BEAST by 0,");
        C.due("a false one", haunted("f70"), 0);
        C.due("a beast", haunted("b70"), 0);
        C.says("a KING by 2,");
        C.due("a king", haunted("k70"), 2);
        C.says("all others as a DEATH.");
        C.due("a good one", haunted("g70"), 1);
        C.due("a soldier", haunted("s70"), 1);
        C.due("all of them", haunted("d70g70f70b70s70k70"), 5);
        C.due("six kings", haunted("k70k70k70k70k70k70"), 12);
    }

    private static int haunted(String deaths) {
        LimeDeaths x = Check.green("t00000000" + deaths);
        return Check.told(x, x.bough(7, 2));
    }

    private static int morningLeaves(int leaves, String deaths) {
        LimeDeaths x = Check.green("t0000000" + leaves + deaths);
        x.morning();
        return Check.leaves(x, 7);
    }

    private static void mornings() {
        C.says("MORNING 0 is next at first; nothing is TOLD.");
        LimeDeaths x = Check.green(SIX);
        C.due("morning 0", x.count(2), 0);
        C.due("nothing told", x.count(4), 0);
        C.due("without deaths too", new LimeDeaths().count(2), 0);
        C.says("A MORNING: each BOUGH has as many LEAVES less (0 at least) as it is HAUNTED by in all;");
        for (int n = 0; n <= 9; n++) {
            C.due("by 1, of " + n, morningLeaves(n, "d70"), Math.max(0, n - 1));
            C.due("by 2, of " + n, morningLeaves(n, "k70"), Math.max(0, n - 2));
            C.due("by 5, of " + n, morningLeaves(n, "k70d70g70s70f70b70"), Math.max(0, n - 5));
            C.due("by 12, of " + n, morningLeaves(n, "k70k70k70k70k70k70"), 0);
        }
        x.morning();
        C.boughs("each bough", x, 4, 5, 4, 0, 2, 9, 5, 7);
        C.says("one that is not HAUNTED 1 more (9 at most).");
        for (int n = 0; n <= 9; n++) {
            C.due("of no death, of " + n, morningLeaves(n, "d60"), Math.min(9, n + 1));
            C.due("of a false one, of " + n, morningLeaves(n, "f70"), Math.min(9, n + 1));
            C.due("of a beast, of " + n, morningLeaves(n, "b70"), Math.min(9, n + 1));
        }
        LimeDeaths told = Check.green("t50000000d00");
        told.tell(0);
        told.morning();
        C.due("of one that is told", Check.leaves(told, 0), 5);
        C.says("The next MORNING's number is 1 more.");
        LimeDeaths y = Check.green(SIX);
        for (int n = 1; n <= 40; n++) {
            y.morning();
            C.due("the next one's number", y.count(2), n);
        }
    }

    private static void deeds() {
        C.says("What is done: a MORNING, a DEATH is TOLD, a BOUGH is watered (LEAVES more, 9 at most), or pruned (none).");
        LimeDeaths x = Check.green(SIX);
        x.morning();
        x.tell(0);
        C.due("watered", x.water(1, 1), 6);
        C.due("9 at most", x.water(1, 9), 9);
        C.due("pruned", x.prune(1), 9);
        C.due("none then", Check.leaves(x, 1), 0);
        C.says("These are DEEDS 0, 1, .. (40 at most).");
        C.due("five deeds", x.count(3), 5);
        C.due("from number 4 on there is one", x.undo(4), 1);
        C.due("from number 0 on there are four", x.undo(0), 4);
        LimeDeaths full = Check.full(SIX);
        C.due("forty", full.count(3), 40);
        C.due("no more", full.morning(), FULL);
    }

    private static void lots() {
        C.says("LOTS: a number comes from the one ahead by 48271 times it modulo 2147483647, the first from a seed "
            + "(1 .. 2147483646).");
        for (int seed : new int[] {1, 2, 44488, 44489, 1000000007, 2147483645, 2147483646}) {
            LimeDeaths by = Check.green(SIX);
            LimeDeaths own = Check.green(SIX);
            long lot = seed;
            int deeds = 0;
            for (int k = 0; k < 20; k++) {
                lot = lot * 48271 % 2147483647;
                deeds += doOwn(own, (int) (lot / 8 % 8), (int) (lot % 6), (int) (lot / 64 % 8));
            }
            C.due("lots(20, " + seed + ")", by.lots(20, seed), own.count(1));
            C.due("what is told by " + seed, by.count(4), own.count(4));
            C.due("mornings by " + seed, by.count(2), own.count(2));
            C.due("deeds by " + seed, by.count(3), own.count(3) + 20 - deeds);
        }
        C.bad("seed 0", Check.green(SIX), () -> Check.green(SIX).lots(1, 0));
        C.bad("seed 2147483647", Check.green(SIX), () -> Check.green(SIX).lots(1, 2147483647));
    }

    /** A lot's deed done by hand: 1, or 0 if it can't be (then it changes nothing). */
    private static int doOwn(LimeDeaths x, int way, int i, int b) {
        int done = way < 4 ? x.morning() : way < 6 ? x.tell(i) : way == 6 ? x.water(b, 2) : x.prune(b);
        return done >= 0 ? 1 : 0;
    }
}
