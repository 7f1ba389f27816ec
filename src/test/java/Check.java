/** Compares answers with those that are due, and makes objects to ask. */
final class Check {
    private int asked = 0;
    private int wrong = 0;

    void due(String call, long got, long want) {
        asked++;
        if (got != want) {
            wrong++;
            System.out.println("  " + call + " answered " + got + ", due is " + want);
        }
    }

    /** A call that is refused with a finding, which is noted once more, while the digest stays. */
    void finds(String call, LimeDeaths x, java.util.function.IntSupplier run, int finding) {
        int before = x.findings(finding);
        long digest = x.digest();
        int told = x.asked();
        due(call, run.getAsInt(), LimeDeaths.FINDING);
        due(call + " finding()", x.finding(), finding);
        due(call + " findings(" + finding + ")", x.findings(finding), before + 1);
        due(call + " digest()", x.digest(), digest);
        due(call + " asked()", x.asked(), told);
    }

    /** A call that is refused otherwise: nothing at all changes. */
    void refuses(String call, LimeDeaths x, java.util.function.IntSupplier run, int refusal) {
        long before = noted(x);
        due(call, run.getAsInt(), refusal);
        due(call + " changes nothing", noted(x), before);
    }

    private static long noted(LimeDeaths x) {
        long h = x.digest();
        for (int f = 1; f <= 5; f++) {
            h = 31 * h + x.findings(f);
        }
        return 31 * (31 * (31 * (31 * h + x.finding()) + x.asked()) + x.upper()) + x.lower();
    }

    static void write(LimeDeaths x, int t, String text) {
        x.text(t, text.length());
        for (int i = 0; i < text.length(); i++) {
            x.put(t, i, text.charAt(i));
        }
    }

    static LimeDeaths green(String text) {
        LimeDeaths x = new LimeDeaths();
        write(x, 0, text);
        x.green(0);
        return x;
    }

    static void lay(LimeDeaths x, int r, int... ints) {
        x.row(r, ints.length);
        for (int i = 0; i < ints.length; i++) {
            x.lay(r, i, ints[i]);
        }
    }

    void row(String call, LimeDeaths x, int r, int... ints) {
        due(call + " size", x.copy(r, 0, r, 0, ints.length), 1);
        due(call + " no more", x.at(r, ints.length), LimeDeaths.FINDING);
        for (int i = 0; i < ints.length; i++) {
            x.at(r, i);
            due(call + " place " + i, x.asked(), ints[i]);
        }
    }

    void end() {
        System.out.println("  " + asked + " answers, " + wrong + " wrong");
        if (wrong != 0) {
            System.exit(1);
        }
    }
}
