/** Runs of calls by lots, ordinary ones, edges and wild ones, each answer compared with the naive model's. */
public final class ModelTest {
    private static final int RUNS = 600, CALLS = 512;
    private static final int[] WILD = {-1, -2, 40, 41, 60, 61, 1000, Integer.MAX_VALUE, Integer.MIN_VALUE, -9};
    private static final String[] CALL = {"row", "lay", "at", "tear", "copy", "mean", "text", "put", "fault", "green",
        "bough", "death", "mark", "morning", "tell", "water", "prune", "undo", "keep", "on", "answers", "leaves",
        "bare", "round", "plan", "about", "sure", "next", "worths", "kinds", "sets", "surely", "duel", "odds", "mid",
        "lots", "count", "findings"};
    private static final int[] ARGUMENTS = {2, 3, 2, 1, 5, 1, 2, 3, 1, 1, 2, 2, 2, 0, 1, 2, 1, 1, 1, 1, 3, 1, 1, 2, 3,
        2, 2, 2, 2, 2, 1, 1, 1, 3, 1, 2, 1, 1};
    /** One above the greatest argument that is drawn as an ordinary one. */
    private static final int[][] RANGES = {{6, 41}, {6, 12, 10}, {6, 12}, {6}, {6, 4, 6, 4, 4}, {6}, {4, 61},
        {4, 40, 128}, {4}, {4}, {8, 3}, {6, 6}, {6, 6}, {}, {6}, {8, 10}, {8}, {12}, {3}, {3}, {6, 10, 10}, {41},
        {8}, {64, 6}, {8, 10, 6}, {8, 6}, {8, 6}, {8, 6}, {6, 6}, {6, 6}, {55}, {55}, {3}, {8, 10, 13}, {13},
        {12, 2147483647}, {12}, {6}};

    private static long lot = 20261118;
    private static int wrong = 0;
    private static long compared = 0;
    private static final int[] answered = new int[CALL.length];

    public static void main(String[] args) {
        for (int run = 0; run < RUNS && wrong < 20; run++) {
            runOnce(run);
        }
        for (int call = 0; call < CALL.length; call++) {
            if (answered[call] < 500) {
                wrong++;
                System.out.println("  " + CALL[call] + " was answered only " + answered[call] + " times");
            }
        }
        System.out.println("  " + compared + " answers, " + wrong + " wrong");
        if (wrong != 0) {
            System.exit(1);
        }
    }

    private static int draw(int below) {
        lot = lot * 6364136223846793005L + 1442695040888963407L;
        return (int) Long.remainderUnsigned(lot >>> 24, below);
    }

    private static void runOnce(int run) {
        LimeDeaths x = new LimeDeaths();
        Model m = new Model();
        int wildness = draw(3) == 0 ? 4 : 25;
        for (int k = 0; k < CALLS && wrong < 20; k++) {
            if (draw(60) == 0 || k == 3) {
                writeGreen(x, m, run);
            } else if (draw(10) == 0) {
                writeRow(x, m, run);
            } else {
                callOne(x, m, run, drawCall(run), wildness);
            }
        }
    }

    /** In some runs green() and text() are rare, so that deeds come to forty. */
    private static int drawCall(int run) {
        int call = draw(CALL.length);
        if (run % 3 == 0 && (call == 9 || call == 17 || call == 19) && draw(8) != 0) {
            return 13 + draw(4);
        }
        return call;
    }

    private static void callOne(LimeDeaths x, Model m, int run, int call, int wildness) {
        int[] a = new int[5];
        for (int k = 0; k < ARGUMENTS[call]; k++) {
            a[k] = draw(wildness) == 0 ? WILD[draw(WILD.length)] : draw(RANGES[call][k] + (draw(9) == 0 ? 1 : 0));
        }
        compare(x, m, run, call, a);
    }

    private static void compare(LimeDeaths x, Model m, int run, int call, int... a) {
        int got = ask(x, call, a);
        int want = askModel(m, call, a);
        answered[call] += want >= 0 ? 1 : 0;
        String told = "run " + run + ": " + CALL[call] + java.util.Arrays.toString(a);
        due(told, got, want);
        due(told + " asked()", x.asked(), m.asked);
        due(told + " upper()", x.upper(), m.upper.longValueExact());
        due(told + " lower()", x.lower(), m.lower.longValueExact());
        due(told + " finding()", x.finding(), m.finding);
        due(told + " digest()", x.digest(), m.digest());
    }

    private static void due(String call, long got, long want) {
        compared++;
        if (got != want) {
            wrong++;
            System.out.println("  " + call + " answered " + got + ", the model " + want);
        }
    }

    private static void writeGreen(LimeDeaths x, Model m, int run) {
        StringBuilder s = new StringBuilder(" ".repeat(draw(3))).append('t');
        for (int b = 0; b < 8; b++) {
            s.append(draw(10));
        }
        int deaths = draw(20) == 0 ? draw(9) : 1 + draw(6);
        int boughs = 1 + draw(8);
        for (int i = 0; i < deaths; i++) {
            s.append(" ".repeat(draw(3) / 2)).append("dgfbsk".charAt(draw(6))).append(draw(boughs)).append(draw(10));
        }
        s.append(" ".repeat(draw(3)));
        if (draw(4) == 0) {
            s.setCharAt(draw(s.length()), "t09 dgfbsk8:/x".charAt(draw(14)));
        }
        if (draw(9) == 0) {
            s.setLength(draw(s.length()));
        }
        int t = draw(4);
        compare(x, m, run, 6, t, s.length());
        for (int i = 0; i < s.length(); i++) {
            x.put(t, i, s.charAt(i));
            m.put(t, i, s.charAt(i));
        }
        compare(x, m, run, 8, t);
        compare(x, m, run, 9, t);
    }

    /** A row that tells of a bough's leaves as they come, or of how one answered, at times a little off. */
    private static void writeRow(LimeDeaths x, Model m, int run) {
        if (m.count(0) == 0) {
            return;
        }
        int r = draw(6);
        boolean pairs = draw(2) == 0;
        int n = pairs ? 2 * draw(5) : 1 + draw(4);
        int b = draw(8);
        int haunting = draw(4);
        int i = draw(m.count(0));
        int worth = draw(10);
        int leaves = draw(10);
        m.bough(b, 0);
        x.bough(b, 0);
        leaves = pairs ? leaves : m.asked;
        compare(x, m, run, 0, r, n);
        for (int k = 0; k < n; k++) {
            if (pairs) {
                leaves = k % 2 == 0 ? draw(10) : m.answers(i, worth, leaves);
            } else {
                leaves = Math.max(0, Math.min(9, haunting == 0 ? leaves + 1 : leaves - haunting));
            }
            compare(x, m, run, 1, r, k, draw(40) == 0 ? draw(12) - 1 : leaves);
        }
        int from = pairs ? 28 : 25;
        for (int call = from; call < (pairs ? 30 : 28); call++) {
            compare(x, m, run, call, pairs ? i : b, r);
        }
    }

    private static int ask(LimeDeaths x, int call, int[] a) {
        switch (CALL[call]) {
            case "row": return x.row(a[0], a[1]);
            case "lay": return x.lay(a[0], a[1], a[2]);
            case "at": return x.at(a[0], a[1]);
            case "tear": return x.tear(a[0]);
            case "copy": return x.copy(a[0], a[1], a[2], a[3], a[4]);
            case "mean": return x.mean(a[0]);
            case "text": return x.text(a[0], a[1]);
            case "put": return x.put(a[0], a[1], a[2]);
            case "fault": return x.fault(a[0]);
            case "green": return x.green(a[0]);
            case "bough": return x.bough(a[0], a[1]);
            case "death": return x.death(a[0], a[1]);
            case "mark": return x.mark(a[0], a[1]);
            case "morning": return x.morning();
            case "tell": return x.tell(a[0]);
            case "water": return x.water(a[0], a[1]);
            case "prune": return x.prune(a[0]);
            case "undo": return x.undo(a[0]);
            case "keep": return x.keep(a[0]);
            case "on": return x.on(a[0]);
            case "answers": return x.answers(a[0], a[1], a[2]);
            case "leaves": return x.leaves(a[0]);
            case "bare": return x.bare(a[0]);
            case "round": return x.round(a[0], a[1]);
            case "plan": return x.plan(a[0], a[1], a[2]);
            case "about": return x.about(a[0], a[1]);
            case "sure": return x.sure(a[0], a[1]);
            case "next": return x.next(a[0], a[1]);
            case "worths": return x.worths(a[0], a[1]);
            case "kinds": return x.kinds(a[0], a[1]);
            case "sets": return x.sets(a[0]);
            case "surely": return x.surely(a[0]);
            case "duel": return x.duel(a[0]);
            case "odds": return x.odds(a[0], a[1], a[2]);
            case "mid": return x.mid(a[0]);
            case "lots": return x.lots(a[0], a[1]);
            case "count": return x.count(a[0]);
            default: return x.findings(a[0]);
        }
    }

    private static int askModel(Model m, int call, int[] a) {
        switch (CALL[call]) {
            case "row": return m.row(a[0], a[1]);
            case "lay": return m.lay(a[0], a[1], a[2]);
            case "at": return m.at(a[0], a[1]);
            case "tear": return m.tear(a[0]);
            case "copy": return m.copy(a[0], a[1], a[2], a[3], a[4]);
            case "mean": return m.mean(a[0]);
            case "text": return m.text(a[0], a[1]);
            case "put": return m.put(a[0], a[1], a[2]);
            case "fault": return m.fault(a[0]);
            case "green": return m.green(a[0]);
            case "bough": return m.bough(a[0], a[1]);
            case "death": return m.death(a[0], a[1]);
            case "mark": return m.mark(a[0], a[1]);
            case "morning": return m.morning();
            case "tell": return m.tell(a[0]);
            case "water": return m.water(a[0], a[1]);
            case "prune": return m.prune(a[0]);
            case "undo": return m.undo(a[0]);
            case "keep": return m.keep(a[0]);
            case "on": return m.on(a[0]);
            case "answers": return m.answers(a[0], a[1], a[2]);
            case "leaves": return m.leaves(a[0]);
            case "bare": return m.bare(a[0]);
            case "round": return m.round(a[0], a[1]);
            case "plan": return m.plan(a[0], a[1], a[2]);
            case "about": return m.about(a[0], a[1]);
            case "sure": return m.sure(a[0], a[1]);
            case "next": return m.next(a[0], a[1]);
            case "worths": return m.worths(a[0], a[1]);
            case "kinds": return m.kinds(a[0], a[1]);
            case "sets": return m.sets(a[0]);
            case "surely": return m.surely(a[0]);
            case "duel": return m.duel(a[0]);
            case "odds": return m.odds(a[0], a[1], a[2]);
            case "mid": return m.mid(a[0]);
            case "lots": return m.lots(a[0], a[1]);
            case "count": return m.count(a[0]);
            default: return m.findings(a[0]);
        }
    }
}
