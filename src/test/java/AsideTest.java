/** Promises 22 to 26 and 34 to 36: what comes, who is to be told, by turns, chances. */
public final class AsideTest {
    private static final Check C = new Check();
    private static final String SIX = "t57301946 d05g17f00b23s14k39";

    public static void main(String[] args) {
        answers();
        leaves();
        bare();
        rounds();
        plans();
        duels();
        odds();
        mids();
        C.end();
    }

    private static void answers() {
        LimeDeaths x = Check.green(SIX);
        int[][] dues = {
            {0, 9, 0, 0}, {0, 0, 9, 8}, {1, 0, 4, 4}, {1, 1, 4, 5}, {1, 3, 4, 5}, {1, 4, 4, 6}, {1, 9, 8, 9},
            {2, 9, 9, 4}, {2, 0, 1, 0}, {3, 9, 9, 0}, {4, 0, 4, 5}, {4, 9, 0, 4}, {4, 0, 9, 9},
            {5, 1, 0, 2}, {5, 9, 0, 6}, {5, 9, 5, 9}, {5, 0, 3, 3}};
        for (int[] due : dues) {
            C.due("answers(" + due[0] + ", " + due[1] + ", " + due[2] + ")",
                x.answers(due[0], due[1], due[2]), due[3]);
        }
        int[][] bads = {{6, 0, 0}, {-1, 0, 0}, {0, 10, 0}, {0, -1, 0}, {0, 0, 10}, {0, 0, -1}};
        for (int[] bad : bads) {
            C.refuses("answers bad", x, () -> x.answers(bad[0], bad[1], bad[2]), LimeDeaths.BAD);
        }
        LimeDeaths none = new LimeDeaths();
        C.refuses("answers without deaths", none, () -> none.answers(0, 0, 0), LimeDeaths.BAD);
    }

    private static void leaves() {
        LimeDeaths x = Check.green(SIX);
        long digest = x.digest();
        int[][] dues = {{0, 35, 1}, {1, 36, 1}, {2, 37, 1}, {9, 45, 3}, {40, 45, 3}};
        for (int[] due : dues) {
            C.due("leaves(" + due[0] + ")", x.leaves(due[0]), due[1]);
            C.due("leaves(" + due[0] + ") told", x.asked(), due[2]);
        }
        C.due("leaves aside", x.digest(), digest);
        C.refuses("leaves(41)", x, () -> x.leaves(41), LimeDeaths.BAD);
        C.refuses("leaves(-1)", x, () -> x.leaves(-1), LimeDeaths.BAD);
        LimeDeaths none = new LimeDeaths();
        C.refuses("leaves without deaths", none, () -> none.leaves(0), LimeDeaths.STATE);
    }

    private static void bare() {
        LimeDeaths x = Check.green("t57301946 d05g17f00b23s14k39");
        int[] dues = {5, 4, LimeDeaths.NONE, 0, LimeDeaths.NONE, LimeDeaths.NONE, LimeDeaths.NONE, LimeDeaths.NONE};
        for (int b = 0; b < 8; b++) {
            C.due("bare(" + b + ")", x.bare(b), dues[b]);
        }
        C.refuses("bare(8)", x, () -> x.bare(8), LimeDeaths.BAD);
        C.refuses("bare(-1)", x, () -> x.bare(-1), LimeDeaths.BAD);
        LimeDeaths none = new LimeDeaths();
        C.refuses("bare without deaths", none, () -> none.bare(0), LimeDeaths.STATE);
    }

    private static void rounds() {
        LimeDeaths x = Check.green("t50000000d00f00g09");
        // 5: false 2, death 1, good 4; death 4, false 2, good 5; good 8, ..
        C.due("round(7, 0)", x.round(7, 0), 5);
        C.row("round(7, 0)", x, 0, 0, 1, 2);
        C.due("round(0, 1)", x.round(0, 1), 5);
        C.row("round(0, 1)", x, 1);
        // death first keeps 3, false first keeps 1 .. good behind the half is best
        LimeDeaths y = Check.green("t50000000g09f00d00");
        C.due("the first best order", y.round(7, 0), 5);
        C.row("the first best order", y, 0, 2, 1, 0);
        LimeDeaths alike = Check.green("t55000000d00d10");
        C.due("the first of orders alike", alike.round(3, 0), 8);
        C.row("the first of orders alike", alike, 0, 0, 1);
        LimeDeaths k = Check.green("t00000000k09d10");
        C.due("a king alone", k.round(1, 3), LimeDeaths.NONE);
        C.due("no row then", k.count(9), 0);
        C.due("a king last", k.round(3, 3), 6);
        C.row("a king last", k, 3, 1, 0);
        k.tell(1);
        C.due("a king then", k.round(1, 3), 6);
        C.refuses("round of told", k, () -> k.round(3, 3), LimeDeaths.STATE);
        C.refuses("round of others", k, () -> k.round(4, 3), LimeDeaths.BAD);
        C.refuses("round(-1, 3)", k, () -> k.round(-1, 3), LimeDeaths.BAD);
        C.refuses("round(1, 6)", k, () -> k.round(1, 6), LimeDeaths.BAD);
        C.refuses("round(1, -1)", k, () -> k.round(1, -1), LimeDeaths.BAD);
        LimeDeaths none = new LimeDeaths();
        C.refuses("round without deaths", none, () -> none.round(0, 0), LimeDeaths.STATE);
        C.refuses("round bad without deaths", none, () -> none.round(1, 0), LimeDeaths.BAD);
    }

    private static void plans() {
        LimeDeaths x = Check.green(SIX);
        C.due("plan now", x.plan(0, 5, 3), 0);
        C.row("plan now", x, 3);
        C.due("plan of a king", x.plan(3, 6, 3), 6);
        C.row("plan of a king", x, 3, 0, 1, 2, 3, 4, 5);
        C.due("plan that can't be", x.plan(3, 7, 3), LimeDeaths.NONE);
        C.row("row as it was", x, 3, 0, 1, 2, 3, 4, 5);
        LimeDeaths y = Check.green("t00000000d00g03g06s03");
        C.due("plan of one", y.plan(0, 2, 0), 1);
        C.row("plan of one", y, 0, 2);
        C.due("plan of two", y.plan(0, 3, 0), 2);
        C.row("plan of two", y, 0, 1, 2);
        C.due("plan of three", y.plan(0, 5, 0), 3);
        C.row("plan of three", y, 0, 1, 2, 3);
        y.tell(2);
        C.due("plan behind telling", y.plan(0, 5, 0), 2);
        C.row("plan behind telling", y, 0, 1, 3);
        C.due("plan beyond", y.plan(0, 6, 0), LimeDeaths.NONE);
        int[][] bads = {{8, 0, 0}, {-1, 0, 0}, {0, 10, 0}, {0, -1, 0}, {0, 0, 6}, {0, 0, -1}};
        for (int[] bad : bads) {
            C.refuses("plan bad", x, () -> x.plan(bad[0], bad[1], bad[2]), LimeDeaths.BAD);
        }
        LimeDeaths none = new LimeDeaths();
        C.refuses("plan without deaths", none, () -> none.plan(0, 0, 0), LimeDeaths.STATE);
    }

    private static void duel(LimeDeaths x, int n, int lead) {
        long digest = x.digest();
        C.due("duel(" + n + ")", x.duel(n), 1);
        C.due("duel(" + n + ") told", x.asked(), lead);
        C.due("duel aside", x.digest(), digest);
    }

    private static void duels() {
        LimeDeaths x = Check.green(SIX);
        duel(x, 0, -6);
        duel(x, 1, -8);
        duel(x, 2, -11);
        // the first one gives 0 three leaves, and the bough greens: 4, and 3 others; against 4
        LimeDeaths y = Check.green("t00000000g09");
        duel(y, 0, -1);
        duel(y, 1, 0 + 4 + 3 - 4);
        // told by the first one the even bough comes to 4, else the other one has the uneven bough bear
        LimeDeaths z = Check.green("t00000000g09g19");
        duel(z, 1, 4 + 3 - 4 - 3);
        LimeDeaths o = Check.green("t00000000g19");
        duel(o, 1, 4 - 4 - 3);
        C.refuses("duel(3)", x, () -> x.duel(3), LimeDeaths.BAD);
        C.refuses("duel(-1)", x, () -> x.duel(-1), LimeDeaths.BAD);
        LimeDeaths none = new LimeDeaths();
        C.refuses("duel without deaths", none, () -> none.duel(0), LimeDeaths.STATE);
    }

    private static void odd(LimeDeaths x, int b, int v, int p, long up, long low) {
        String call = "odds(" + b + ", " + v + ", " + p + ")";
        C.due(call, x.odds(b, v, p), 1);
        C.due(call + " upper", x.upper(), up);
        C.due(call + " lower", x.lower(), low);
    }

    private static void odds() {
        LimeDeaths x = Check.green(SIX);
        odd(x, 0, 5, 0, 1, 1);
        odd(x, 0, 6, 12, 0, 1);
        odd(x, 1, 9, 4, 5, 9);
        odd(x, 3, 2, 6, 1, 64);
        LimeDeaths k = Check.green("t00000000k09d10");
        odd(k, 0, 6, 12, 0, 1);
        k.tell(1);
        odd(k, 0, 6, 5, 5, 12);
        int[][] bads = {{8, 0, 0}, {-1, 0, 0}, {0, 10, 0}, {0, -1, 0}, {0, 0, 13}, {0, 0, -1}};
        for (int[] bad : bads) {
            C.refuses("odds bad", x, () -> x.odds(bad[0], bad[1], bad[2]), LimeDeaths.BAD);
        }
        LimeDeaths none = new LimeDeaths();
        C.refuses("odds without deaths", none, () -> none.odds(0, 0, 0), LimeDeaths.STATE);
    }

    private static void middle(LimeDeaths x, int p, long up, long low) {
        C.due("mid(" + p + ")", x.mid(p), 1);
        C.due("mid(" + p + ") upper", x.upper(), up);
        C.due("mid(" + p + ") lower", x.lower(), low);
    }

    private static void mids() {
        LimeDeaths x = Check.green(SIX);
        middle(x, 0, 35, 1);
        middle(x, 5, 16725385, 497664);
        middle(x, 12, 37, 1);
        middle(Check.green("t00000000d00"), 7, 0, 1);
        middle(Check.green("t10000000d00"), 7, 5, 12);
        C.refuses("mid(13)", x, () -> x.mid(13), LimeDeaths.BAD);
        C.refuses("mid(-1)", x, () -> x.mid(-1), LimeDeaths.BAD);
        LimeDeaths none = new LimeDeaths();
        C.refuses("mid without deaths", none, () -> none.mid(0), LimeDeaths.STATE);
    }
}
