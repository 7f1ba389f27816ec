import java.util.function.IntSupplier;

/** Compares answers with those that are due, for sentence by sentence of the document, and makes objects to ask. */
final class Check {
    static final String SIX = "t57301946 d05g17f00b23s14k39";
    static final int NOTHING = 1, BEYOND = 2, UNLIKE = 3, NOUGHT = 4, SIZE = 5;
    static final int[] NO_INDEX = {-1, Integer.MIN_VALUE, Integer.MAX_VALUE};

    private final Document doc = new Document();
    private String sentence = "";
    private int asked = 0;
    private int askedOfSentence = 0;
    private int wrong = 0;

    // the document's sentences: each is named, then tested

    void promise(int n) {
        close();
        doc.openPromise(n);
        opened("promise " + n);
    }

    void ahead(String call) {
        close();
        doc.openAhead(call);
        opened("ahead of " + call);
    }

    void part(String name, String from, String to) {
        close();
        doc.openPart(name, from, to);
        opened(name);
    }

    private void opened(String name) {
        if (doc.isThere() && !doc.isOpen()) {
            fail("the document has no " + name);
        }
    }

    /** The words of the open section that the checks behind this test. */
    void says(String words) {
        closeSentence();
        sentence = words;
        if (doc.isThere() && !doc.claim(words)) {
            fail("the document does not say (again)");
        }
    }

    private void closeSentence() {
        if (!sentence.isEmpty() && askedOfSentence == 0) {
            fail("nothing tests this");
        }
        sentence = "";
        askedOfSentence = 0;
    }

    private void close() {
        closeSentence();
        if (doc.isOpen() && !doc.unclaimed().isEmpty()) {
            fail("nothing tests: " + doc.unclaimed());
        }
    }

    private void fail(String what) {
        wrong++;
        System.out.println("  " + doc.name() + (sentence.isEmpty() ? "" : ", \"" + sentence + "\"") + ": " + what);
    }

    // answers

    void due(String call, long got, long want) {
        asked++;
        askedOfSentence++;
        if (got != want) {
            fail(call + " answered " + got + ", due is " + want);
        }
    }

    /** A call that answers 1 and tells a number by asked(). */
    void tells(String call, LimeDeaths x, IntSupplier run, int want) {
        due(call, run.getAsInt(), 1);
        due(call + " asked()", x.asked(), want);
    }

    /** A call that answers 1 and tells a ratio by upper(), lower(). */
    void ratio(String call, LimeDeaths x, IntSupplier run, long upper, long lower) {
        due(call, run.getAsInt(), 1);
        due(call + " upper()", x.upper(), upper);
        due(call + " lower()", x.lower(), lower);
    }

    /** A call that is refused with a finding, which is noted once more, while all else stays. */
    void finds(String call, LimeDeaths x, IntSupplier run, int finding) {
        int[] before = new int[6];
        for (int f = 1; f <= 5; f++) {
            before[f] = x.findings(f);
        }
        long still = still(x);
        due(call, run.getAsInt(), LimeDeaths.FINDING);
        due(call + " finding()", x.finding(), finding);
        for (int f = 1; f <= 5; f++) {
            due(call + " findings(" + f + ")", x.findings(f), before[f] + (f == finding ? 1 : 0));
        }
        due(call + " changes nothing", still(x), still);
    }

    /** A call that is refused otherwise, or answers NONE: nothing at all changes. */
    void refuses(String call, LimeDeaths x, IntSupplier run, int refusal) {
        long before = noted(x);
        due(call, run.getAsInt(), refusal);
        due(call + " changes nothing", noted(x), before);
    }

    void bad(String call, LimeDeaths x, IntSupplier run) {
        refuses(call, x, run, LimeDeaths.BAD);
    }

    private static long still(LimeDeaths x) {
        return 31 * (31 * (31 * x.digest() + x.asked()) + x.upper()) + x.lower();
    }

    private static long noted(LimeDeaths x) {
        long h = still(x);
        for (int f = 1; f <= 5; f++) {
            h = 31 * h + x.findings(f);
        }
        return 31 * h + x.finding();
    }

    // objects

    static LimeDeaths write(LimeDeaths x, int t, String text) {
        x.text(t, text.length());
        for (int i = 0; i < text.length(); i++) {
            x.put(t, i, text.charAt(i));
        }
        return x;
    }

    static LimeDeaths green(String text) {
        LimeDeaths x = write(new LimeDeaths(), 0, text);
        x.green(0);
        return x;
    }

    /** A green on which 40 deeds have been done, all of them mornings. */
    static LimeDeaths full(String text) {
        LimeDeaths x = green(text);
        for (int k = 0; k < 40; k++) {
            x.morning();
        }
        return x;
    }

    static LimeDeaths lay(LimeDeaths x, int r, int... ints) {
        x.row(r, ints.length);
        for (int i = 0; i < ints.length; i++) {
            x.lay(r, i, ints[i]);
        }
        return x;
    }

    static int told(LimeDeaths x, int answer) {
        return answer == 1 ? x.asked() : Integer.MIN_VALUE;
    }

    static int leaves(LimeDeaths x, int b) {
        return told(x, x.bough(b, 0));
    }

    void row(String call, LimeDeaths x, int r, int... ints) {
        due(call + " size", x.copy(r, 0, r, 0, ints.length), 1);
        due(call + " no more", x.at(r, ints.length), LimeDeaths.FINDING);
        for (int i = 0; i < ints.length; i++) {
            due(call + " place " + i, told(x, x.at(r, i)), ints[i]);
        }
    }

    void boughs(String call, LimeDeaths x, int... leaves) {
        for (int b = 0; b < leaves.length; b++) {
            due(call + " bough " + b, leaves(x, b), leaves[b]);
        }
    }

    void end() {
        close();
        System.out.println("  " + asked + " answers, " + wrong + " wrong");
        if (wrong != 0) {
            System.exit(1);
        }
    }
}
