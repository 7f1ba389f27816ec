import java.util.function.IntSupplier;

/** Promises 22 to 26 and 34 to 36: what comes, who is to be told, by turns, chances. */
public final class AsideTest {
    private static final Check C = new Check();
    private static final int MIN = Integer.MIN_VALUE, MAX = Integer.MAX_VALUE;
    private static final int NONE = LimeDeaths.NONE;
    private static final int[] NO_BOUGH = {-1, 8, MIN, MAX};
    private static final int[] NO_DEATH = {-1, 6, MIN, MAX};
    private static final int[] NO_ROW = {-1, 6, MIN, MAX};
    private static final int[] NO_FIGURE = {-1, 10, MIN, MAX};
    private static final String SIX = Check.SIX;

    public static void main(String[] args) {
        aside();
        answers();
        leaves();
        bare();
        round();
        plan();
        duel();
        chances();
        odds();
        mid();
        C.end();
    }

    /** Asked aside, a green and its deeds stay, even where no deed more could be done. */
    private static void staysGreen(String call, LimeDeaths x, IntSupplier run) {
        int[] counts = new int[9];
        for (int what = 0; what < 9; what++) {
            counts[what] = x.count(what);
        }
        C.due(call + " is answered", run.getAsInt() >= 0 ? 1 : 0, 1);
        for (int what = 0; what < 9; what++) {
            C.due(call + " count(" + what + ")", x.count(what), counts[what]);
        }
    }

    private static void aside() {
        LimeDeaths full = Check.full(SIX);
        C.ahead("answers");
        C.says("what comes (aside).");
        staysGreen("answers", full, () -> full.answers(5, 9, 9));
        staysGreen("leaves", full, () -> full.leaves(40));
        staysGreen("bare", full, () -> full.bare(0));
        C.due("no row by these", full.count(9), 0);
        C.ahead("round");
        C.says("who is to be told (aside, now).");
        staysGreen("round", full, () -> full.round(63, 0));
        staysGreen("plan", full, () -> full.plan(3, 6, 0));
        LimeDeaths x = Check.green("t50000000g00g09");
        C.due("round at first", x.round(3, 0), 8);
        x.prune(0);
        x.tell(0);
        C.due("round now", x.round(2, 0), 3);
        C.due("plan now", x.plan(0, 3, 0), 1);
    }

    private static void answers() {
        C.promise(22);
        C.says("How many LEAVES a BOUGH of so many (0 .. 9) would have, TOLD of a DEATH of a WORTH (0 .. 9) as one is.");
        LimeDeaths x = Check.green("t99999999d09g00f09b09s00k00");
        int[] more = {0, 1, 1, 1, 2, 2, 2, 3, 3, 3};
        int[] half = {0, 0, 1, 1, 2, 2, 3, 3, 4, 4};
        int[] less = {0, 0, 1, 2, 3, 4, 5, 6, 7, 8};
        for (int worth = 0; worth <= 9; worth++) {
            for (int leaves = 0; leaves <= 9; leaves++) {
                String of = " of " + worth + ", " + leaves;
                C.due("a death's" + of, x.answers(0, worth, leaves), less[leaves]);
                C.due("a good one's" + of, x.answers(1, worth, leaves), Math.min(9, leaves + more[worth]));
                C.due("a false one's" + of, x.answers(2, worth, leaves), half[leaves]);
                C.due("a beast's" + of, x.answers(3, worth, leaves), 0);
                C.due("a soldier's" + of, x.answers(4, worth, leaves), Math.min(9, leaves + more[worth] + 1));
                C.due("a king's" + of, x.answers(5, worth, leaves), Math.min(9, leaves + 2 * more[worth]));
            }
        }
        x.tell(1);
        C.due("told or not", x.answers(1, 3, 4), 5);
        C.says("BAD.");
        for (int i : NO_DEATH) {
            C.bad("answers(" + i + ", 0, 0)", x, () -> x.answers(i, 0, 0));
        }
        for (int v : NO_FIGURE) {
            C.bad("answers(0, " + v + ", 0)", x, () -> x.answers(0, v, 0));
            C.bad("answers(0, 0, " + v + ")", x, () -> x.answers(0, 0, v));
        }
        LimeDeaths one = Check.green("t00000000g00");
        C.bad("answers(1, 0, 0) of one", one, () -> one.answers(1, 0, 0));
        LimeDeaths none = new LimeDeaths();
        C.bad("answers without deaths", none, () -> none.answers(0, 0, 0));
    }

    private static void leaves() {
        C.promise(23);
        C.says("All LEAVES behind n (0 .. 40) MORNINGS;");
        LimeDeaths x = Check.green(SIX);
        int[] mornings = {0, 1, 2, 3, 4, 9, 39, 40};
        int[] sums = {35, 36, 37, 38, 39, 45, 45, 45};
        int[] bare = {1, 1, 1, 1, 2, 3, 3, 3};
        for (int k = 0; k < mornings.length; k++) {
            C.due("leaves(" + mornings[k] + ")", x.leaves(mornings[k]), sums[k]);
        }
        LimeDeaths y = Check.green(SIX);
        for (int n = 0; n < 40; n++) {
            C.due("leaves(1) behind " + n, y.leaves(1), x.leaves(n + 1));
            y.morning();
        }
        C.due("leaves(0) of all green", Check.green("t99999999b00").leaves(0), 72);
        C.due("9 at most", Check.green("t99999999b00").leaves(40), 72);
        C.due("0 at least", Check.green("t10000000k00d10d20d30d40d50").leaves(1), 2);
        C.says("how many BOUGHS have none then by asked().");
        for (int k = 0; k < mornings.length; k++) {
            x.leaves(mornings[k]);
            C.due("leaves(" + mornings[k] + ") asked()", x.asked(), bare[k]);
        }
        LimeDeaths all = Check.green("t00000000d00");
        all.leaves(0);
        C.due("all bare", all.asked(), 8);
        LimeDeaths green = Check.green("t99999999f00");
        all.leaves(40);
        green.leaves(40);
        C.due("none bare", green.asked(), 0);
        C.says("BAD;");
        LimeDeaths none = new LimeDeaths();
        for (int n : new int[] {-1, 41, MIN, MAX}) {
            C.bad("leaves(" + n + ")", x, () -> x.leaves(n));
            C.bad("leaves(" + n + ") without deaths, BAD ahead of STATE", none, () -> none.leaves(n));
        }
        C.says("STATE: no DEATHS.");
        C.refuses("leaves without deaths", none, () -> none.leaves(0), LimeDeaths.STATE);
    }

    private static void bare() {
        C.promise(24);
        C.says("In how many MORNINGS (0 .. 40) a BOUGH has none first.");
        LimeDeaths x = Check.green(SIX);
        C.due("haunted by 1", x.bare(0), 5);
        C.due("haunted by 2, of 7", x.bare(1), 4);
        C.due("bare now, haunted", x.bare(3), 0);
        C.due("bare now, not haunted", Check.green("t00000000d10").bare(0), 0);
        C.due("of 9 by 1", Check.green("t00000009d70").bare(7), 9);
        C.due("of 8 by 8", Check.green("t80000000k00k00d00d00d00d00").bare(0), 1);
        x.morning();
        C.due("a morning later", x.bare(0), 4);
        C.says("NONE: in none of these.");
        for (int b = 4; b < 8; b++) {
            int bough = b;
            C.refuses("bare(" + b + ")", x, () -> x.bare(bough), NONE);
        }
        C.refuses("a beast does not haunt", x, () -> x.bare(2), NONE);
        x.tell(0);
        C.refuses("told", x, () -> x.bare(0), NONE);
        C.says("BAD;");
        LimeDeaths none = new LimeDeaths();
        for (int b : NO_BOUGH) {
            C.bad("bare(" + b + ")", x, () -> x.bare(b));
            C.bad("bare(" + b + ") without deaths, BAD ahead of STATE", none, () -> none.bare(b));
        }
        C.says("STATE: no DEATHS.");
        C.refuses("bare without deaths", none, () -> none.bare(0), LimeDeaths.STATE);
    }

    private static void round() {
        C.promise(25);
        C.says("How many LEAVES there are at most, if all of a set of DEATHS are TOLD in any order in which they can be;");
        LimeDeaths x = Check.green("t50000000d00f00g09");
        C.due("of none", x.round(0, 1), 5);
        C.row("of none", x, 1);
        C.due("of one", x.round(2, 1), 2);
        C.due("of all", x.round(7, 1), 5);
        LimeDeaths six = Check.green(SIX);
        C.due("of six", six.round(63, 0), 37);
        C.row("of six", six, 0, 0, 1, 2, 3, 4, 5);
        C.due("a cut at 9 is best done first", Check.green("t90000000d00g09").round(3, 0), 9);
        C.says("the first order by which there are comes to a ROW (anew).");
        C.row("death, false, good", x, 1, 0, 1, 2);
        LimeDeaths y = Check.green("t50000000g09f00d00");
        y.row(5, 40);
        C.due("the last order of all is the only best one", y.round(7, 5), 5);
        C.row("the last order of all", y, 5, 2, 1, 0);
        LimeDeaths alike = Check.green("t55500000d20d10d00");
        for (int r = 0; r < 6; r++) {
            C.due("orders alike", alike.round(7, r), 12);
            C.row("the first of orders alike", alike, r, 0, 1, 2);
        }
        C.due("a set without the first", alike.round(6, 0), 13);
        C.row("a set without the first", alike, 0, 1, 2);
        C.due("of none", alike.round(0, 0), 15);
        C.row("an empty row", alike, 0);
        LimeDeaths k = Check.green("t00000000k09d10");
        C.due("a king last", k.round(3, 3), 6);
        C.row("a king last", k, 3, 1, 0);
        LimeDeaths kings = Check.green("t00000000k09k10k29");
        C.due("kings in any order", kings.round(7, 0), 12);
        C.row("kings in any order", kings, 0, 0, 1, 2);
        noRound();
    }

    private static void noRound() {
        C.says("NONE: there is no such order.");
        LimeDeaths k = Check.green("t00000000k09d10");
        C.refuses("a king alone, to a missing row", k, () -> k.round(1, 3), NONE);
        Check.lay(k, 3, 7, 8);
        C.refuses("a king alone, the row stays", k, () -> k.round(1, 3), NONE);
        LimeDeaths six = Check.green(SIX);
        C.refuses("all but one", six, () -> six.round(62, 0), NONE);
        C.due("all but the king", six.round(31, 0), 31);
        six.tell(0);
        C.due("the one told", six.round(62, 0), 37);
        k.tell(1);
        C.due("a king then", k.round(1, 3), 6);
        C.says("BAD: also a set of others;");
        LimeDeaths none = new LimeDeaths();
        for (int set : new int[] {4, 5, 64, -1, -2, MIN, MAX}) {
            C.bad("round(" + set + ", 3) of two", k, () -> k.round(set, 3));
        }
        C.bad("round(64, 3) of six", six, () -> six.round(64, 3));
        C.bad("round(4 and a told one), BAD ahead of STATE", k, () -> k.round(6, 3));
        for (int r : NO_ROW) {
            C.bad("round(1, " + r + ")", k, () -> k.round(1, r));
            C.bad("round(2, " + r + ") of told, BAD ahead of STATE", k, () -> k.round(2, r));
            C.bad("round(0, " + r + ") without deaths, BAD ahead of STATE", none, () -> none.round(0, r));
        }
        C.bad("round(1, 0) without deaths: a set of others", none, () -> none.round(1, 0));
        C.says("STATE: no DEATHS, or one is TOLD.");
        C.refuses("round without deaths", none, () -> none.round(0, 0), LimeDeaths.STATE);
        C.refuses("round of told", k, () -> k.round(2, 3), LimeDeaths.STATE);
        C.refuses("round of told and not", k, () -> k.round(3, 3), LimeDeaths.STATE);
        C.due("round of none, one told", k.round(0, 3), 0);
        C.says("(STATE last.)");
        C.refuses("a king too early, and one told", six, () -> six.round(33, 0), LimeDeaths.STATE);
    }

    private static void plan() {
        C.promise(26);
        C.says("The fewest DEATHS (0 .. 6) to be TOLD, in any order in which they can be, so that a BOUGH has v (0 .. 9) "
            + "LEAVES or more in the end;");
        LimeDeaths x = Check.green(SIX);
        C.due("just so many now", x.plan(0, 5, 3), 0);
        C.due("more now", x.plan(5, 1, 3), 0);
        C.due("none wanted", x.plan(3, 0, 3), 0);
        C.due("nine now", x.plan(5, 9, 3), 0);
        for (int b = 0; b < 8; b++) {
            C.due("of bough " + b, Check.green("t00000000g" + b + "9").plan(b, 3, 0), 1);
        }
        C.due("six for a king's", x.plan(3, 6, 3), 6);
        C.row("six for a king's", x, 3, 0, 1, 2, 3, 4, 5);
        LimeDeaths y = Check.green("t00000000d00g03g06s03");
        int[] fewest = {0, 1, 1, 2, 2, 3, NONE};
        for (int v = 0; v < fewest.length; v++) {
            C.due("plan(0, " + v + ", 0)", y.plan(0, v, 0), fewest[v]);
        }
        C.says("the first such order of so many comes to a ROW (anew).");
        int[][] orders = {{}, {1}, {2}, {1, 2}, {2, 3}, {1, 2, 3}};
        for (int v = 0; v < orders.length; v++) {
            y.row(5, 40);
            C.due("plan(0, " + v + ", 5)", y.plan(0, v, 5), orders[v].length);
            C.row("plan(0, " + v + ", 5)", y, 5, orders[v]);
        }
        for (int r = 0; r < 6; r++) {
            y.plan(0, 2, r);
            C.row("plan to row " + r, y, r, 2);
        }
        y.tell(2);
        C.due("behind telling", y.plan(0, 5, 0), 2);
        C.row("behind telling", y, 0, 1, 3);
        // with nine leaves at most the order matters: the good one behind the false one, not ahead of it
        LimeDeaths z = Check.green("t90000000g09f00k00");
        C.due("plan of 9 now", z.plan(0, 9, 0), 0);
        z.tell(1);
        C.due("plan behind the half", z.plan(0, 7, 0), 1);
        noPlan(x, y);
    }

    private static void noPlan(LimeDeaths x, LimeDeaths y) {
        C.says("NONE: it can't be.");
        C.refuses("more than all do", x, () -> x.plan(3, 7, 3), NONE);
        C.refuses("on a bough of no death", x, () -> x.plan(4, 2, 3), NONE);
        C.refuses("to a missing row", x, () -> x.plan(4, 2, 5), NONE);
        C.row("a row stays", x, 3, 0, 1, 2, 3, 4, 5);
        C.refuses("what is told is not told again", y, () -> y.plan(0, 6, 0), NONE);
        C.says("BAD;");
        LimeDeaths none = new LimeDeaths();
        for (int b : NO_BOUGH) {
            C.bad("plan(" + b + ", 0, 0)", x, () -> x.plan(b, 0, 0));
            C.bad("plan(" + b + ", 0, 0) without deaths, BAD ahead of STATE", none, () -> none.plan(b, 0, 0));
        }
        for (int v : NO_FIGURE) {
            C.bad("plan(0, " + v + ", 0)", x, () -> x.plan(0, v, 0));
            C.bad("plan(0, " + v + ", 0) without deaths, BAD ahead of STATE", none, () -> none.plan(0, v, 0));
        }
        for (int r : NO_ROW) {
            C.bad("plan(0, 0, " + r + ")", x, () -> x.plan(0, 0, r));
            C.bad("plan(0, 0, " + r + ") without deaths, BAD ahead of STATE", none, () -> none.plan(0, 0, r));
        }
        C.says("STATE: no DEATHS.");
        C.refuses("plan without deaths", none, () -> none.plan(0, 0, 0), LimeDeaths.STATE);
    }

    private static void lead(String why, String green, int n, int lead) {
        LimeDeaths x = Check.green(green);
        long digest = x.digest();
        C.tells(why + ", duel(" + n + ")", x, () -> x.duel(n), lead);
        C.due(why + " aside", x.digest(), digest);
    }

    private static void duel() {
        C.promise(34);
        C.says("By turns two tell of a DEATH that can be TOLD, or none, n (0 .. 2) times each, the first one begins;");
        lead("nobody tells", SIX, 0, -6);
        lead("once each", SIX, 1, -8);
        lead("twice each", SIX, 2, -11);
        // told by the first one the even bough has 3, and 4 in the morning; the other one has none to tell of
        lead("the first one begins", "t00000000g09", 1, 4 + 3 - 4);
        lead("the other one tells of an uneven one", "t00000000g19", 1, 0 + 4 - 3 - 4);
        lead("each tells of one", "t00000000g09g19", 1, 4 + 3 - 4 - 3);
        lead("the other one tells of the beast, if the first one does not", "t55000000b00", 1, 1 + 3 - 6 - 3);
        // the beast told, the king can be: who is not helped by it tells of none
        lead("the other one tells of none", "t00000000b10k09", 1, 0 + 3 - 4);
        lead("the first one tells of none", "t00000000b10k19", 1, 4 - 0 - 3);
        lead("in two turns each a king can be told", "t00000000b10k09", 2, 7 + 3 - 4);
        LimeDeaths told = Check.green("t00000000g09");
        told.tell(0);
        for (int n = 0; n <= 2; n++) {
            int times = n;
            C.tells("all is told, duel(" + n + ")", told, () -> told.duel(times), 4 + 3 - 4);
        }
        C.says("then it is a MORNING: how many LEAVES more BOUGHS of even numbers have then than those of uneven ones,");
        lead("a morning on which all green", "t05050505b00", 0, 4 - 24);
        lead("a morning on which one is bare", "t10000000k00", 0, 0 + 3 - 4);
        lead("even ones at most", "t90909090f10", 0, 36 - 4);
        C.says("the first one wanting that to be much, the other one little, told by asked(): 1.");
        lead("the first one makes it much", "t40404040s09", 1, 8 + 5 * 3 + 1 - 4);
        lead("the other one makes it little", "t04040404s19", 1, 4 - (9 + 15));
        // on one bough it matters who tells first: 5 and 3, then half of it, or half of 5, then 3 more
        lead("first the good one, then the false one", "t50000000g09f00", 1, 5 + 3 - 4);
        lead("with two turns the first one tells of both", "t50000000g09f00", 2, 6 + 3 - 4);
        lead("first the false one, then the good one", "t05000000g19f10", 1, 4 - 6 - 3);
        C.says("BAD;");
        LimeDeaths x = Check.green(SIX);
        LimeDeaths none = new LimeDeaths();
        for (int n : new int[] {-1, 3, MIN, MAX}) {
            C.bad("duel(" + n + ")", x, () -> x.duel(n));
            C.bad("duel(" + n + ") without deaths, BAD ahead of STATE", none, () -> none.duel(n));
        }
        C.says("STATE: no DEATHS.");
        C.refuses("duel without deaths", none, () -> none.duel(0), LimeDeaths.STATE);
    }

    private static void odd(String green, int b, int v, int p, long upper, long lower) {
        LimeDeaths x = Check.green(green);
        C.ratio("odds(" + b + ", " + v + ", " + p + ") of " + green, x, () -> x.odds(b, v, p), upper, lower);
    }

    private static void middle(String green, int p, long upper, long lower) {
        LimeDeaths x = Check.green(green);
        C.ratio("mid(" + p + ") of " + green, x, () -> x.mid(p), upper, lower);
    }

    private static void chances() {
        C.ahead("odds");
        C.says("chances, lots (each DEATH that is not TOLD, 0, 1, .. one behind the other, is TOLD now");
        LimeDeaths x = Check.green("t00000000g09g09");
        x.tell(1);
        C.ratio("one told already", x, () -> x.odds(0, 6, 5), 5, 12);
        C.ratio("three leaves are sure", x, () -> x.odds(0, 3, 5), 1, 1);
        // told in their order: 8 less 1, then half of 7 is 3; the other way half of 8 less 1 were 3 too
        middle("t90000000d00f00", 12, 4, 1);
        middle("t90000000f00d00", 12, 3, 1);
        C.says("by p (0 .. 12) of 12, each by itself,");
        for (int p = 0; p <= 12; p++) {
            int divisor = java.math.BigInteger.valueOf(p).gcd(java.math.BigInteger.valueOf(12)).intValue();
            odd("t00000000g09", 0, 3, p, p / divisor, 12 / divisor);
        }
        odd("t00000000g09g09", 0, 6, 6, 1, 4);
        odd("t00000000g09g09g09", 0, 9, 4, 1, 27);
        C.says("if it can be then).");
        odd("t00000000d10k09", 0, 6, 6, 1, 4);
        odd("t00000000k09d10", 0, 6, 12, 0, 1);
        odd("t00000000d10k09k19", 1, 6, 6, 1, 4);
        LimeDeaths full = Check.full("t00000000f10k09");
        C.ratio("forty deeds do not matter", full, () -> full.odds(0, 6, 6), 1, 4);
    }

    private static void odds() {
        C.promise(35);
        C.says("Chances that a BOUGH has v (0 .. 9) LEAVES or more behind that: 1.");
        odd(SIX, 0, 5, 0, 1, 1);
        odd(SIX, 0, 6, 0, 0, 1);
        odd(SIX, 0, 6, 12, 0, 1);
        odd(SIX, 1, 9, 4, 5, 9);
        odd(SIX, 3, 2, 6, 1, 64);
        odd(SIX, 2, 0, 7, 1, 1);
        odd(SIX, 5, 9, 7, 1, 1);
        odd(SIX, 7, 7, 7, 0, 1);
        // of six beasts none may be told: 11 by 12, six times
        odd("t90000000b00b00b00b00b00b00", 0, 1, 1, 1771561, 2985984);
        LimeDeaths told = Check.green("t90000000b00");
        told.tell(0);
        C.ratio("all told", told, () -> told.odds(0, 0, 6), 1, 1);
        C.ratio("all told", told, () -> told.odds(0, 1, 6), 0, 1);
        C.says("BAD;");
        LimeDeaths x = Check.green(SIX);
        LimeDeaths none = new LimeDeaths();
        for (int b : NO_BOUGH) {
            C.bad("odds(" + b + ", 0, 0)", x, () -> x.odds(b, 0, 0));
            C.bad("odds(" + b + ", 0, 0) without deaths, BAD ahead of STATE", none, () -> none.odds(b, 0, 0));
        }
        for (int v : NO_FIGURE) {
            C.bad("odds(0, " + v + ", 0)", x, () -> x.odds(0, v, 0));
            C.bad("odds(0, " + v + ", 0) without deaths, BAD ahead of STATE", none, () -> none.odds(0, v, 0));
        }
        for (int p : new int[] {-1, 13, MIN, MAX}) {
            C.bad("odds(0, 0, " + p + ")", x, () -> x.odds(0, 0, p));
            C.bad("odds(0, 0, " + p + ") without deaths, BAD ahead of STATE", none, () -> none.odds(0, 0, p));
        }
        C.says("STATE: no DEATHS.");
        C.refuses("odds without deaths", none, () -> none.odds(0, 0, 0), LimeDeaths.STATE);
    }

    private static void mid() {
        C.promise(36);
        C.says("The mean of all LEAVES behind that: 1.");
        middle(SIX, 0, 35, 1);
        middle(SIX, 5, 16725385, 497664);
        middle(SIX, 12, 37, 1);
        middle("t00000000d00", 7, 0, 1);
        middle("t10000000d00", 7, 5, 12);
        middle("t10000000d00", 6, 1, 2);
        middle("t99999999d00", 12, 71, 1);
        middle("t99999999f00b20", 4, 72 * 3 - 5 - 9, 3);
        LimeDeaths told = Check.green("t90000000b00");
        told.tell(0);
        C.ratio("all told", told, () -> told.mid(6), 0, 1);
        C.says("BAD;");
        LimeDeaths x = Check.green(SIX);
        LimeDeaths none = new LimeDeaths();
        for (int p : new int[] {-1, 13, MIN, MAX}) {
            C.bad("mid(" + p + ")", x, () -> x.mid(p));
            C.bad("mid(" + p + ") without deaths, BAD ahead of STATE", none, () -> none.mid(p));
        }
        C.says("STATE: no DEATHS.");
        C.refuses("mid without deaths", none, () -> none.mid(0), LimeDeaths.STATE);
    }
}
