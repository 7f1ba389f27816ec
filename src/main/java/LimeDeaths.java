import java.util.Arrays;

/** The old lime on the green, the deaths that it is told of, and what its boughs make of them. */
public final class LimeDeaths {
    public static final int BAD = -1, FULL = -2, FINDING = -3, STATE = -4, SPENT = -6, NONE = -9;

    private static final int NOTHING = 1, BEYOND = 2, UNLIKE = 3, NOUGHT = 4, SIZE = 5;
    private static final int MISSING = -1;
    private static final int ROWS = 6, MOST_PLACES = 40;
    private static final int TEXTS = 4, MOST_BYTES = 60, BLANK = 32;
    private static final int BOUGHS = 8, MOST_LEAVES = 9;
    private static final int MOST_DEATHS = 6, MOST_WORTH = 9;
    private static final int DEATH = 0, GOOD = 1, FALSE = 2, BEAST = 3, SOLDIER = 4, KING = 5, KINDS = 6;
    private static final int MOST_DEEDS = 40, KEPT = 3;
    private static final int MOST_WATCHED = 10, MOST_PAIRS = 8;
    private static final int TWELVE = 12;
    private static final long LOT_FACTOR = 48271L, LOT_MODULUS = 2147483647L;
    private static final int COUNTS = 12, DEATH_FACTS = 6;

    private final Row[] rows = new Row[ROWS];
    private final Text[] texts = new Text[TEXTS];
    private final Reader reader = new Reader();
    private final Orders orders = new Orders();
    private final Course course = new Course();
    private final Course[] kept = new Course[KEPT];
    private final int[] parts = new int[MOST_LEAVES + 1];
    private final int[] found = new int[SIZE + 1];
    private Green lime = new Green();
    private Green draft = new Green();
    private int asked = 0;
    private long upper = 0;
    private long lower = 1;
    private int finding = 0;

    public LimeDeaths() {
        for (int r = 0; r < ROWS; r++) {
            rows[r] = new Row();
        }
        for (int t = 0; t < TEXTS; t++) {
            texts[t] = new Text();
        }
        for (int k = 0; k < KEPT; k++) {
            kept[k] = new Course();
        }
        course.begin(0);
    }

    // ---- 1 rows, texts, greens

    public int row(int r, int n) {
        if (!isWithin(r, ROWS) || n > MOST_PLACES) {
            return BAD;
        }
        if (n < 0) {
            return find(SIZE);
        }
        rows[r].begin(n);
        return n;
    }

    public int lay(int r, int i, int v) {
        int refusal = placeRefusal(r, i);
        if (refusal != 0) {
            return refusal;
        }
        int was = rows[r].places[i];
        rows[r].places[i] = v;
        return say(was);
    }

    public int at(int r, int i) {
        int refusal = placeRefusal(r, i);
        if (refusal != 0) {
            return refusal;
        }
        return say(rows[r].places[i]);
    }

    public int tear(int r) {
        int refusal = rowRefusal(r);
        if (refusal != 0) {
            return refusal;
        }
        rows[r].size = MISSING;
        return 1;
    }

    public int copy(int r, int i, int to, int j, int n) {
        if (!isWithin(r, ROWS) || !isWithin(to, ROWS)) {
            return BAD;
        }
        if (n < 0) {
            return find(SIZE);
        }
        Row from = rows[r];
        Row into = rows[to];
        if (from.isMissing() || into.isMissing()) {
            return find(NOTHING);
        }
        if (!from.hasRun(i, n) || !into.hasRun(j, n)) {
            return find(BEYOND);
        }
        System.arraycopy(from.places, i, into.places, j, n);
        return 1;
    }

    public int mean(int r) {
        int refusal = rowRefusal(r);
        if (refusal != 0) {
            return refusal;
        }
        Row row = rows[r];
        if (row.size == 0) {
            return find(NOUGHT);
        }
        long sum = 0;
        for (int i = 0; i < row.size; i++) {
            sum += row.places[i];
        }
        return say((int) (sum / row.size));
    }

    public int text(int t, int n) {
        if (!isWithin(t, TEXTS) || n > MOST_BYTES) {
            return BAD;
        }
        if (n < 0) {
            return find(SIZE);
        }
        texts[t].begin(n);
        return n;
    }

    public int put(int t, int i, int v) {
        int refusal = textRefusal(t);
        if (refusal != 0) {
            return refusal;
        }
        Text text = texts[t];
        if (!isWithin(i, text.size)) {
            return find(BEYOND);
        }
        int was = text.bytes[i];
        text.bytes[i] = (byte) v;
        return was + 1000;
    }

    public int fault(int t) {
        int refusal = textRefusal(t);
        if (refusal != 0) {
            return refusal;
        }
        return reader.read(texts[t], draft);
    }

    public int green(int t) {
        int refusal = textRefusal(t);
        if (refusal != 0) {
            return refusal;
        }
        if (reader.read(texts[t], draft) != NONE) {
            return STATE;
        }
        Green old = lime;
        lime = draft;
        draft = old;
        course.begin(lime.firstBoughs);
        for (int k = 0; k < KEPT; k++) {
            kept[k].deeds = MISSING;
        }
        return lime.size;
    }

    public int bough(int b, int what) {
        if (!isWithin(b, BOUGHS) || !isWithin(what, 3)) {
            return BAD;
        }
        if (lime.size == 0) {
            return STATE;
        }
        if (what == 0) {
            return say(Boughs.leavesOf(course.boughsNow(), b));
        }
        return say(what == 1 ? lime.deathsOf(b) : lime.haunting(b, course.toldNow()));
    }

    public int death(int i, int what) {
        if (!isWithin(i, lime.size) || !isWithin(what, DEATH_FACTS)) {
            return BAD;
        }
        return say(factOf(i, what));
    }

    public int mark(int i, int kind) {
        if (!isWithin(i, lime.size) || kind == DEATH || !isWithin(kind, KINDS)) {
            return BAD;
        }
        if (!Kinds.isOf(lime.kind[i], kind)) {
            return find(UNLIKE);
        }
        int untold = lime.all() & ~course.toldNow();
        switch (kind) {
            case GOOD:
                return fewestForNine(i);
            case FALSE:
                return leavesAt(i) - lime.answerOf(i, leavesAt(i));
            case BEAST:
                return Boughs.sum(course.boughsNow()) - leavesAt(i);
            case SOLDIER:
                return Integer.bitCount(untold & lime.goods());
            default:
                return Integer.bitCount(untold & lime.commons);
        }
    }

    // ---- 2 deeds

    public int morning() {
        if (lime.size == 0) {
            return STATE;
        }
        if (!course.hasRoom(1)) {
            return FULL;
        }
        doMorning();
        return Boughs.sum(course.boughsNow());
    }

    public int tell(int i) {
        if (!isWithin(i, lime.size)) {
            return BAD;
        }
        if (!lime.canTell(i, course.toldNow())) {
            return STATE;
        }
        if (!course.hasRoom(1)) {
            return FULL;
        }
        doTelling(i);
        return leavesAt(i);
    }

    public int water(int b, int n) {
        if (!isWithin(b, BOUGHS) || n < 1 || n > MOST_LEAVES) {
            return BAD;
        }
        if (lime.size == 0 || Boughs.leavesOf(course.boughsNow(), b) == MOST_LEAVES) {
            return STATE;
        }
        if (!course.hasRoom(1)) {
            return FULL;
        }
        doWatering(b, n);
        return Boughs.leavesOf(course.boughsNow(), b);
    }

    public int prune(int b) {
        if (!isWithin(b, BOUGHS)) {
            return BAD;
        }
        int had = Boughs.leavesOf(course.boughsNow(), b);
        if (lime.size == 0 || had == 0) {
            return STATE;
        }
        if (!course.hasRoom(1)) {
            return FULL;
        }
        doPruning(b);
        return had;
    }

    public int undo(int n) {
        if (n < 0 || n > course.deeds) {
            return BAD;
        }
        int undone = course.deeds - n;
        course.deeds = n;
        return undone;
    }

    public int keep(int k) {
        if (!isWithin(k, KEPT)) {
            return BAD;
        }
        if (lime.size == 0) {
            return STATE;
        }
        kept[k].become(course);
        return course.deeds;
    }

    public int on(int k) {
        if (!isWithin(k, KEPT)) {
            return BAD;
        }
        if (kept[k].deeds == MISSING) {
            return find(NOTHING);
        }
        course.become(kept[k]);
        return course.deeds;
    }

    // ---- 3 what comes (aside)

    public int answers(int i, int worth, int leaves) {
        if (!isWithin(i, lime.size) || !isWithin(worth, MOST_WORTH + 1) || !isWithin(leaves, MOST_LEAVES + 1)) {
            return BAD;
        }
        return Kinds.answer(lime.kind[i], worth, leaves);
    }

    public int leaves(int n) {
        if (!isWithin(n, MOST_DEEDS + 1)) {
            return BAD;
        }
        if (lime.size == 0) {
            return STATE;
        }
        int then = lime.boughsLater(course.boughsNow(), course.toldNow(), n);
        say(Integer.bitCount(Boughs.bareOnes(then)));
        return Boughs.sum(then);
    }

    public int bare(int b) {
        if (!isWithin(b, BOUGHS)) {
            return BAD;
        }
        if (lime.size == 0) {
            return STATE;
        }
        int now = Boughs.leavesOf(course.boughsNow(), b);
        int haunting = lime.haunting(b, course.toldNow());
        for (int n = 0; n <= MOST_DEEDS; n++) {
            if (Boughs.leavesLater(now, haunting, n) == 0) {
                return n;
            }
        }
        return NONE;
    }

    // ---- 4 who is to be told (aside, now)

    public int round(int set, int r) {
        if (!isWithin(r, ROWS) || set < 0 || (set & ~lime.all()) != 0) {
            return BAD;
        }
        if (lime.size == 0 || (set & course.toldNow()) != 0) {
            return STATE;
        }
        int most = orders.findMost(lime, set, course.boughsNow(), course.toldNow());
        if (most != NONE) {
            orders.layInto(rows[r]);
        }
        return most;
    }

    public int plan(int b, int v, int r) {
        if (!isWithin(b, BOUGHS) || !isWithin(v, MOST_LEAVES + 1) || !isWithin(r, ROWS)) {
            return BAD;
        }
        if (lime.size == 0) {
            return STATE;
        }
        orders.aimAt(b, v);
        int fewest = orders.findFewest(lime, course.boughsNow(), course.toldNow());
        if (fewest != NONE) {
            orders.layInto(rows[r]);
        }
        return fewest;
    }

    // ---- 5 who is about

    public int about(int b, int r) {
        int refusal = watchRefusal(b, r);
        if (refusal != 0) {
            return refusal;
        }
        int sets = 0;
        int least = NONE;
        for (int set = lime.all(); set >= 0; set--) {
            if (fitsWatch(set, b, rows[r])) {
                sets++;
                least = set;
            }
        }
        setRatio(sets, 1);
        return say(least);
    }

    public int sure(int b, int r) {
        int refusal = watchRefusal(b, r);
        if (refusal != 0) {
            return refusal;
        }
        int inEach = lime.all();
        int inNone = lime.all();
        for (int set = 0; set <= lime.all(); set++) {
            if (fitsWatch(set, b, rows[r])) {
                inEach &= set;
                inNone &= ~set;
            }
        }
        say(inNone);
        return inEach;
    }

    public int next(int b, int r) {
        int refusal = watchRefusal(b, r);
        if (refusal != 0) {
            return refusal;
        }
        int best = NONE;
        int leastPart = 0;
        for (int other = 0; other < BOUGHS; other++) {
            int part = greatestPart(other, b, rows[r]);
            if (part > 0 && (best == NONE || part < leastPart)) {
                best = other;
                leastPart = part;
            }
        }
        if (best != NONE) {
            say(leastPart);
        }
        return best;
    }

    // ---- 6 by how it answered

    public int worths(int i, int r) {
        int refusal = pairsRefusal(i, r);
        if (refusal != 0) {
            return refusal;
        }
        int bits = 0;
        for (int worth = 0; worth <= MOST_WORTH; worth++) {
            if (fitsPairs(lime.kind[i], worth, rows[r])) {
                bits |= 1 << worth;
            }
        }
        return bits;
    }

    public int kinds(int i, int r) {
        int refusal = pairsRefusal(i, r);
        if (refusal != 0) {
            return refusal;
        }
        int bits = 0;
        for (int kind = 0; kind < KINDS; kind++) {
            if (fitsPairs(kind, lime.worth[i], rows[r])) {
                bits |= 1 << kind;
            }
        }
        return bits;
    }

    // ---- 7 whose worth

    public int sets(int v) {
        int refusal = worthRefusal(v);
        if (refusal != 0) {
            return refusal;
        }
        int sets = 0;
        int first = NONE;
        for (int set = lime.all(); set >= 0; set--) {
            if (lime.worthOf(set) == v) {
                sets++;
                first = set;
            }
        }
        setRatio(sets, 1);
        return say(first);
    }

    public int surely(int v) {
        int refusal = worthRefusal(v);
        if (refusal != 0) {
            return refusal;
        }
        int sets = 0;
        int inEach = lime.all();
        int inNone = lime.all();
        for (int set = 0; set <= lime.all(); set++) {
            if (lime.worthOf(set) == v) {
                sets++;
                inEach &= set;
                inNone &= ~set;
            }
        }
        if (sets == 0) {
            return find(NOUGHT);
        }
        say(inNone);
        return inEach;
    }

    // ---- 8 by turns

    public int duel(int n) {
        if (!isWithin(n, 3)) {
            return BAD;
        }
        if (lime.size == 0) {
            return STATE;
        }
        return say(leadAfter(lime, 2 * n, course.boughsNow(), course.toldNow()));
    }

    // ---- 9 chances, lots

    public int odds(int b, int v, int p) {
        if (!isWithin(b, BOUGHS) || !isWithin(v, MOST_LEAVES + 1) || !isWithin(p, TWELVE + 1)) {
            return BAD;
        }
        if (lime.size == 0) {
            return STATE;
        }
        int untold = lime.all() & ~course.toldNow();
        long sum = 0;
        for (int set = 0; set <= lime.all(); set++) {
            if ((set & ~untold) == 0 && Boughs.leavesOf(boughsIfTold(set), b) >= v) {
                sum += weightOf(set, untold, p);
            }
        }
        setRatio(sum, power(TWELVE, Integer.bitCount(untold)));
        return 1;
    }

    public int mid(int p) {
        if (!isWithin(p, TWELVE + 1)) {
            return BAD;
        }
        if (lime.size == 0) {
            return STATE;
        }
        int untold = lime.all() & ~course.toldNow();
        long sum = 0;
        for (int set = 0; set <= lime.all(); set++) {
            if ((set & ~untold) == 0) {
                sum += weightOf(set, untold, p) * Boughs.sum(boughsIfTold(set));
            }
        }
        setRatio(sum, power(TWELVE, Integer.bitCount(untold)));
        return 1;
    }

    public int lots(int n, int seed) {
        if (n < 1 || n > 20 || seed < 1 || seed > LOT_MODULUS - 1) {
            return BAD;
        }
        if (lime.size == 0) {
            return STATE;
        }
        if (!course.hasRoom(n)) {
            return FULL;
        }
        long lot = seed;
        for (int k = 0; k < n; k++) {
            lot = lot * LOT_FACTOR % LOT_MODULUS;
            doByLot((int) lot);
        }
        return Boughs.sum(course.boughsNow());
    }

    // ---- 10 what is told

    public int asked() {
        return asked;
    }

    public long upper() {
        return upper;
    }

    public long lower() {
        return lower;
    }

    public int count(int what) {
        switch (what) {
            case 0:
                return lime.size;
            case 1:
                return Boughs.sum(course.boughsNow());
            case 2:
                return course.morningNow();
            case 3:
                return course.deeds;
            case 4:
                return course.toldNow();
            case 5:
                return lime.tellable(course.toldNow());
            case 6:
                return lime.size == 0 ? 0 : Boughs.bareOnes(course.boughsNow());
            case 7:
                return Integer.bitCount(lime.goods());
            case 8:
                return lime.size - Integer.bitCount(lime.commons);
            case 9:
                return rowsThere();
            case 10:
                return textsThere();
            case 11:
                return keptThere();
            default:
                return BAD;
        }
    }

    public int finding() {
        return finding;
    }

    public int findings(int f) {
        if (f < NOTHING || f > SIZE) {
            return BAD;
        }
        return found[f];
    }

    public long digest() {
        long h = 17;
        for (int what = 0; what < COUNTS; what++) {
            h = 31 * h + count(what);
        }
        for (int b = 0; b < BOUGHS; b++) {
            h = 31 * h + Boughs.leavesOf(course.boughsNow(), b);
        }
        for (int i = 0; i < lime.size; i++) {
            for (int what = 0; what < DEATH_FACTS; what++) {
                h = 31 * h + factOf(i, what);
            }
        }
        for (int k = 0; k < KEPT; k++) {
            h = 31 * h + kept[k].deeds;
        }
        for (int r = 0; r < ROWS; r++) {
            h = rows[r].digestOnto(h);
        }
        for (int t = 0; t < TEXTS; t++) {
            h = texts[t].digestOnto(h);
        }
        return h;
    }

    // what the calls share

    private static boolean isWithin(int i, int size) {
        return i >= 0 && i < size;
    }

    /** Notes a finding, and is the answer that tells of it. */
    private int find(int f) {
        finding = f;
        found[f]++;
        return FINDING;
    }

    /** Leaves a number for asked(), and is the answer that tells of it. */
    private int say(int v) {
        asked = v;
        return 1;
    }

    private void setRatio(long up, long low) {
        long divisor = greatestDivisor(up, low);
        upper = divisor > 0 ? up / divisor : up;
        lower = divisor > 0 ? low / divisor : low;
    }

    private static long greatestDivisor(long a, long b) {
        // longs need fewer than a hundred steps
        for (int step = 0; step < 100 && b != 0; step++) {
            long rest = a % b;
            a = b;
            b = rest;
        }
        return a;
    }

    private static long power(long base, int n) {
        long product = 1;
        for (int k = 0; k < n; k++) {
            product *= base;
        }
        return product;
    }

    // refusals: 0 if there is none

    private int rowRefusal(int r) {
        if (!isWithin(r, ROWS)) {
            return BAD;
        }
        return rows[r].isMissing() ? find(NOTHING) : 0;
    }

    private int placeRefusal(int r, int i) {
        int refusal = rowRefusal(r);
        if (refusal != 0) {
            return refusal;
        }
        return isWithin(i, rows[r].size) ? 0 : find(BEYOND);
    }

    private int textRefusal(int t) {
        if (!isWithin(t, TEXTS)) {
            return BAD;
        }
        return texts[t].isMissing() ? find(NOTHING) : 0;
    }

    private int watchRefusal(int b, int r) {
        if (!isWithin(b, BOUGHS) || !isWithin(r, ROWS)) {
            return BAD;
        }
        if (lime.size == 0) {
            return STATE;
        }
        int refusal = rowRefusal(r);
        if (refusal != 0) {
            return refusal;
        }
        if (rows[r].size < 1 || rows[r].size > MOST_WATCHED) {
            return find(SIZE);
        }
        return rows[r].holdsLeavesAlone() ? 0 : find(UNLIKE);
    }

    private int pairsRefusal(int i, int r) {
        if (!isWithin(i, lime.size) || !isWithin(r, ROWS)) {
            return BAD;
        }
        int refusal = rowRefusal(r);
        if (refusal != 0) {
            return refusal;
        }
        if (rows[r].size % 2 != 0 || rows[r].size > 2 * MOST_PAIRS) {
            return find(SIZE);
        }
        return rows[r].holdsLeavesAlone() ? 0 : find(UNLIKE);
    }

    private int worthRefusal(int v) {
        if (!isWithin(v, MOST_DEATHS * MOST_WORTH + 1)) {
            return BAD;
        }
        return lime.size == 0 ? STATE : 0;
    }

    // the green as it is now

    private int leavesAt(int i) {
        return Boughs.leavesOf(course.boughsNow(), lime.bough[i]);
    }

    private int factOf(int i, int what) {
        switch (what) {
            case 0:
                return lime.kind[i];
            case 1:
                return lime.bough[i];
            case 2:
                return lime.worth[i];
            case 3:
                return course.toldNow() >> i & 1;
            case 4:
                return lime.canTell(i, course.toldNow()) ? 1 : 0;
            default:
                return lime.answerOf(i, leavesAt(i));
        }
    }

    private int fewestForNine(int i) {
        for (int leaves = 0; leaves < MOST_LEAVES; leaves++) {
            if (lime.answerOf(i, leaves) == MOST_LEAVES) {
                return leaves;
            }
        }
        return MOST_LEAVES;
    }

    private int rowsThere() {
        int there = 0;
        for (int r = 0; r < ROWS; r++) {
            there += rows[r].isMissing() ? 0 : 1;
        }
        return there;
    }

    private int textsThere() {
        int there = 0;
        for (int t = 0; t < TEXTS; t++) {
            there += texts[t].isMissing() ? 0 : 1;
        }
        return there;
    }

    private int keptThere() {
        int there = 0;
        for (int k = 0; k < KEPT; k++) {
            there += kept[k].deeds == MISSING ? 0 : 1;
        }
        return there;
    }

    // deeds, each behind the tests that it may be done

    private void doMorning() {
        int told = course.toldNow();
        course.add(lime.boughsLater(course.boughsNow(), told, 1), told, course.morningNow() + 1);
    }

    private void doTelling(int i) {
        course.add(lime.boughsTold(i, course.boughsNow()), course.toldNow() | 1 << i, course.morningNow());
    }

    private void doWatering(int b, int n) {
        int leaves = Math.min(MOST_LEAVES, Boughs.leavesOf(course.boughsNow(), b) + n);
        course.add(Boughs.with(course.boughsNow(), b, leaves), course.toldNow(), course.morningNow());
    }

    private void doPruning(int b) {
        course.add(Boughs.with(course.boughsNow(), b, 0), course.toldNow(), course.morningNow());
    }

    /** A deed that changes nothing: a lot is a deed in any case. */
    private void doNothing() {
        course.add(course.boughsNow(), course.toldNow(), course.morningNow());
    }

    private void doByLot(int lot) {
        int way = lot / 8 % 8;
        int b = lot / 64 % 8;
        if (way < 4) {
            doMorning();
        } else if (way < 6) {
            int i = lime.size == 0 ? 0 : lot % lime.size;
            if (lime.canTell(i, course.toldNow())) {
                doTelling(i);
            } else {
                doNothing();
            }
        } else if (way == 6) {
            doWatering(b, 2);
        } else {
            doPruning(b);
        }
    }

    // what-ifs

    private boolean fitsWatch(int set, int b, Row row) {
        int haunting = lime.haunting(b, set);
        int leaves = Boughs.leavesOf(course.boughsNow(), b);
        for (int m = 0; m < row.size; m++) {
            leaves = Boughs.leavesLater(leaves, haunting, 1);
            if (leaves != row.places[m]) {
                return false;
            }
        }
        return true;
    }

    /** Of the sets that fit a watched bough, how many another bough can leave together at most. */
    private int greatestPart(int other, int b, Row row) {
        Arrays.fill(parts, 0);
        int now = Boughs.leavesOf(course.boughsNow(), other);
        int greatest = 0;
        for (int set = 0; set <= lime.all(); set++) {
            if (fitsWatch(set, b, row)) {
                int leaves = Boughs.leavesLater(now, lime.haunting(other, set), row.size);
                parts[leaves]++;
                greatest = Math.max(greatest, parts[leaves]);
            }
        }
        return greatest;
    }

    private static boolean fitsPairs(int kind, int worth, Row row) {
        for (int i = 0; i + 1 < row.size; i += 2) {
            if (Kinds.answer(kind, worth, row.places[i]) != row.places[i + 1]) {
                return false;
            }
        }
        return true;
    }

    /** The lead of even boughs if so many turns are left; the first one's turns are those with an even rest. */
    private static int leadAfter(Green green, int turns, int boughs, int told) {
        if (turns <= 0) {
            return Boughs.evenLead(green.boughsLater(boughs, told, 1));
        }
        boolean isFirst = turns % 2 == 0;
        int best = leadAfter(green, turns - 1, boughs, told);
        for (int i = 0; i < green.size; i++) {
            if (green.canTell(i, told)) {
                int lead = leadAfter(green, turns - 1, green.boughsTold(i, boughs), told | 1 << i);
                best = isFirst ? Math.max(best, lead) : Math.min(best, lead);
            }
        }
        return best;
    }

    /** The boughs if of all that are not told just these are to be, one behind the other, those that can be then. */
    private int boughsIfTold(int set) {
        int boughs = course.boughsNow();
        int told = course.toldNow();
        for (int i = 0; i < lime.size; i++) {
            if ((set >> i & 1) == 1 && lime.canTell(i, told)) {
                boughs = lime.boughsTold(i, boughs);
                told |= 1 << i;
            }
        }
        return boughs;
    }

    private static long weightOf(int set, int untold, int p) {
        int telling = Integer.bitCount(set);
        return power(p, telling) * power(TWELVE - p, Integer.bitCount(untold) - telling);
    }

    /** Ints that may be missing; the places are made once and used again. */
    private static final class Row {
        int size = MISSING;
        final int[] places = new int[MOST_PLACES];

        boolean isMissing() {
            return size < 0;
        }

        void begin(int n) {
            size = Math.max(0, Math.min(n, MOST_PLACES));
            Arrays.fill(places, 0);
        }

        boolean hasRun(int from, int n) {
            return from >= 0 && n >= 0 && n <= size && from <= size - n;
        }

        boolean holdsLeavesAlone() {
            for (int i = 0; i < size; i++) {
                if (!isWithin(places[i], MOST_LEAVES + 1)) {
                    return false;
                }
            }
            return true;
        }

        long digestOnto(long h) {
            h = 31 * h + size;
            for (int i = 0; i < size; i++) {
                h = 31 * h + places[i];
            }
            return h;
        }
    }

    /** Bytes that may be missing; they are made once and used again. */
    private static final class Text {
        int size = MISSING;
        final byte[] bytes = new byte[MOST_BYTES];

        boolean isMissing() {
            return size < 0;
        }

        void begin(int n) {
            size = Math.max(0, Math.min(n, MOST_BYTES));
            Arrays.fill(bytes, (byte) BLANK);
        }

        long digestOnto(long h) {
            h = 31 * h + size;
            for (int i = 0; i < size; i++) {
                h = 31 * h + bytes[i];
            }
            return h;
        }
    }

    /** The kinds of deaths. */
    private static final class Kinds {
        private static final int[] LETTERS = {'d', 'g', 'f', 'b', 's', 'k'};

        static int ofLetter(int letter) {
            for (int kind = 0; kind < KINDS; kind++) {
                if (LETTERS[kind] == letter) {
                    return kind;
                }
            }
            return NONE;
        }

        static boolean isOf(int kind, int wider) {
            if (wider == GOOD) {
                return kind == GOOD || kind == SOLDIER || kind == KING;
            }
            return wider == DEATH || kind == wider;
        }

        static int haunt(int kind) {
            if (kind == FALSE || kind == BEAST) {
                return 0;
            }
            return kind == KING ? 2 : 1;
        }

        /** How many leaves a bough of so many has, told of a death. */
        static int answer(int kind, int worth, int leaves) {
            switch (kind) {
                case GOOD:
                    return goodAnswer(worth, leaves);
                case FALSE:
                    return leaves / 2;
                case BEAST:
                    return 0;
                case SOLDIER:
                    return Math.min(MOST_LEAVES, goodAnswer(worth, leaves) + 1);
                case KING:
                    return goodAnswer(worth, goodAnswer(worth, leaves));
                default:
                    return Math.max(0, leaves - 1);
            }
        }

        private static int goodAnswer(int worth, int leaves) {
            return Math.min(MOST_LEAVES, leaves + (worth + 2) / 3);
        }
    }

    /** The leaves of all boughs in one int, four bits for each, so that what-ifs make no objects. */
    private static final class Boughs {
        static int leavesOf(int boughs, int b) {
            return boughs >>> 4 * b & 15;
        }

        static int with(int boughs, int b, int leaves) {
            return boughs & ~(15 << 4 * b) | leaves << 4 * b;
        }

        static int sum(int boughs) {
            int sum = 0;
            for (int b = 0; b < BOUGHS; b++) {
                sum += leavesOf(boughs, b);
            }
            return sum;
        }

        static int evenLead(int boughs) {
            int lead = 0;
            for (int b = 0; b < BOUGHS; b++) {
                lead += b % 2 == 0 ? leavesOf(boughs, b) : -leavesOf(boughs, b);
            }
            return lead;
        }

        static int bareOnes(int boughs) {
            int bits = 0;
            for (int b = 0; b < BOUGHS; b++) {
                bits |= leavesOf(boughs, b) == 0 ? 1 << b : 0;
            }
            return bits;
        }

        /** One bough's leaves behind some mornings, on all of which it is haunted by as much. */
        static int leavesLater(int leaves, int haunting, int mornings) {
            int change = haunting > 0 ? -haunting : 1;
            return Math.max(0, Math.min(MOST_LEAVES, leaves + change * mornings));
        }
    }

    /** The deaths of a green, and what they do; what is told, and the boughs, come from outside. */
    private static final class Green {
        int size = 0;
        int firstBoughs = 0;
        // bits of those that are no kings
        int commons = 0;
        final int[] kind = new int[MOST_DEATHS];
        final int[] bough = new int[MOST_DEATHS];
        final int[] worth = new int[MOST_DEATHS];

        void clear() {
            size = 0;
            firstBoughs = 0;
            commons = 0;
        }

        void add(int itsKind, int itsBough, int itsWorth) {
            if (size >= MOST_DEATHS) {
                return;
            }
            kind[size] = itsKind;
            bough[size] = itsBough;
            worth[size] = itsWorth;
            if (itsKind != KING) {
                commons |= 1 << size;
            }
            size++;
        }

        int all() {
            return (1 << size) - 1;
        }

        int goods() {
            int bits = 0;
            for (int i = 0; i < size; i++) {
                bits |= Kinds.isOf(kind[i], GOOD) ? 1 << i : 0;
            }
            return bits;
        }

        int deathsOf(int b) {
            int bits = 0;
            for (int i = 0; i < size; i++) {
                bits |= bough[i] == b ? 1 << i : 0;
            }
            return bits;
        }

        int worthOf(int set) {
            int sum = 0;
            for (int i = 0; i < size; i++) {
                sum += (set >> i & 1) * worth[i];
            }
            return sum;
        }

        boolean canTell(int i, int told) {
            if (!isWithin(i, size) || (told >> i & 1) == 1) {
                return false;
            }
            return kind[i] != KING || (commons & ~told) == 0;
        }

        int tellable(int told) {
            int bits = 0;
            for (int i = 0; i < size; i++) {
                bits |= canTell(i, told) ? 1 << i : 0;
            }
            return bits;
        }

        int haunting(int b, int told) {
            int sum = 0;
            for (int i = 0; i < size; i++) {
                if (bough[i] == b && (told >> i & 1) == 0) {
                    sum += Kinds.haunt(kind[i]);
                }
            }
            return sum;
        }

        int answerOf(int i, int leaves) {
            return Kinds.answer(kind[i], worth[i], leaves);
        }

        int boughsTold(int i, int boughs) {
            return Boughs.with(boughs, bough[i], answerOf(i, Boughs.leavesOf(boughs, bough[i])));
        }

        int boughsLater(int boughs, int told, int mornings) {
            int later = 0;
            for (int b = 0; b < BOUGHS; b++) {
                int now = Boughs.leavesOf(boughs, b);
                later = Boughs.with(later, b, Boughs.leavesLater(now, haunting(b, told), mornings));
            }
            return later;
        }
    }

    /** Reads a text as a green, as far as it goes on so. */
    private static final class Reader {
        private int place = 0;
        private int fault = NONE;

        /** The fault of a text, or NONE: then the green is the text's. */
        int read(Text text, Green into) {
            place = 0;
            fault = NONE;
            into.clear();
            skipBlanks(text);
            readBoughs(text, into);
            skipBlanks(text);
            // a death takes three bytes or is a fault, so this many rounds are plenty
            for (int k = 0; k <= MOST_DEATHS && fault == NONE && place < text.size; k++) {
                readDeath(text, into);
                skipBlanks(text);
            }
            if (fault == NONE && into.size == 0) {
                fault = place;
            }
            return fault;
        }

        private void skipBlanks(Text text) {
            while (place < text.size && text.bytes[place] == BLANK) {
                place++;
            }
        }

        private void readBoughs(Text text, Green into) {
            if (place >= text.size || text.bytes[place] != 't') {
                fault = place;
                return;
            }
            place++;
            for (int b = 0; b < BOUGHS; b++) {
                into.firstBoughs = Boughs.with(into.firstBoughs, b, readFigure(text, MOST_LEAVES));
            }
        }

        private void readDeath(Text text, Green into) {
            int kind = into.size < MOST_DEATHS ? Kinds.ofLetter(text.bytes[place]) : NONE;
            if (kind == NONE) {
                fault = place;
                return;
            }
            place++;
            int bough = readFigure(text, BOUGHS - 1);
            int worth = readFigure(text, MOST_WORTH);
            into.add(kind, bough, worth);
        }

        /** A figure 0 .. most; behind a fault nothing more is read. */
        private int readFigure(Text text, int most) {
            if (fault != NONE) {
                return 0;
            }
            int figure = place < text.size ? text.bytes[place] - '0' : NONE;
            if (!isWithin(figure, most + 1)) {
                fault = place;
                return 0;
            }
            place++;
            return figure;
        }
    }

    /** How the green was ahead of its first deed and behind each one, so that undoing is going back a number. */
    private static final class Course {
        int deeds = MISSING;
        private final int[] boughs = new int[MOST_DEEDS + 1];
        private final int[] told = new int[MOST_DEEDS + 1];
        private final int[] mornings = new int[MOST_DEEDS + 1];

        void begin(int firstBoughs) {
            deeds = 0;
            boughs[0] = firstBoughs;
            told[0] = 0;
            mornings[0] = 0;
        }

        boolean hasRoom(int more) {
            return deeds + more <= MOST_DEEDS;
        }

        void add(int boughsThen, int toldThen, int morningThen) {
            if (!hasRoom(1)) {
                return;
            }
            deeds++;
            boughs[deeds] = boughsThen;
            told[deeds] = toldThen;
            mornings[deeds] = morningThen;
        }

        int boughsNow() {
            return deeds < 0 ? 0 : boughs[deeds];
        }

        int toldNow() {
            return deeds < 0 ? 0 : told[deeds];
        }

        int morningNow() {
            return deeds < 0 ? 0 : mornings[deeds];
        }

        void become(Course other) {
            deeds = other.deeds;
            System.arraycopy(other.boughs, 0, boughs, 0, boughs.length);
            System.arraycopy(other.told, 0, told, 0, told.length);
            System.arraycopy(other.mornings, 0, mornings, 0, mornings.length);
        }
    }

    /** Looks for orders of telling, the first ones first. */
    private static final class Orders {
        private final int[] tried = new int[MOST_DEATHS];
        private final int[] best = new int[MOST_DEATHS];
        private int bestSize = 0;
        private int most = NONE;
        private int aimedBough = 0;
        private int aimedLeaves = 0;

        int findMost(Green green, int set, int boughs, int told) {
            most = NONE;
            tryOrders(green, set, 0, boughs, told);
            return most;
        }

        private void tryOrders(Green green, int left, int depth, int boughs, int told) {
            if (left == 0) {
                if (Boughs.sum(boughs) > most) {
                    most = Boughs.sum(boughs);
                    takeTried(depth);
                }
                return;
            }
            if (depth >= MOST_DEATHS) {
                return;
            }
            for (int i = 0; i < green.size; i++) {
                if ((left >> i & 1) == 1 && green.canTell(i, told)) {
                    tried[depth] = i;
                    tryOrders(green, left & ~(1 << i), depth + 1, green.boughsTold(i, boughs), told | 1 << i);
                }
            }
        }

        void aimAt(int b, int leaves) {
            aimedBough = b;
            aimedLeaves = leaves;
        }

        int findFewest(Green green, int boughs, int told) {
            for (int n = 0; n <= MOST_DEATHS; n++) {
                if (reachesAim(green, n, 0, boughs, told)) {
                    takeTried(n);
                    return n;
                }
            }
            return NONE;
        }

        private boolean reachesAim(Green green, int n, int depth, int boughs, int told) {
            if (depth == n) {
                return Boughs.leavesOf(boughs, aimedBough) >= aimedLeaves;
            }
            if (depth >= MOST_DEATHS) {
                return false;
            }
            for (int i = 0; i < green.size; i++) {
                if (green.canTell(i, told)) {
                    tried[depth] = i;
                    if (reachesAim(green, n, depth + 1, green.boughsTold(i, boughs), told | 1 << i)) {
                        return true;
                    }
                }
            }
            return false;
        }

        private void takeTried(int n) {
            bestSize = n;
            System.arraycopy(tried, 0, best, 0, n);
        }

        void layInto(Row row) {
            row.begin(bestSize);
            System.arraycopy(best, 0, row.places, 0, bestSize);
        }
    }
}
