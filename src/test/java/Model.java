import java.math.BigInteger;
import java.util.ArrayList;
import java.util.Arrays;
import java.util.List;
import java.util.regex.Matcher;
import java.util.regex.Pattern;

/** A second, naive program for the same document: lists, replayed deeds, a regular expression, whole enumerations. */
final class Model {
    private static final int BAD = -1, FULL = -2, STATE = -4, NONE = -9;
    private static final Pattern GREEN = Pattern.compile(" *t[0-9]{8}(?: *[dgfbsk][0-7][0-9]){1,6} *");

    record Death(char letter, int bough, int worth) { }

    /** 'm' a morning, 't' a telling, 'w' a watering, 'p' a pruning, 'n' nothing. */
    record Deed(char what, int which, int much) { }

    /** How the green is: copied at each step. */
    record Now(int[] leaves, boolean[] told, int morning) {
        Now copy() {
            return new Now(leaves.clone(), told.clone(), morning);
        }

        int sum() {
            return Arrays.stream(leaves).sum();
        }
    }

    private final int[][] rows = new int[6][];
    private final byte[][] texts = new byte[4][];
    private int[] first = new int[8];
    private List<Death> deaths = new ArrayList<>();
    private List<Deed> deeds = new ArrayList<>();
    private final List<List<Deed>> kept = new ArrayList<>(Arrays.asList(null, null, null));
    private final int[] found = new int[6];
    int asked = 0;
    int finding = 0;
    BigInteger upper = BigInteger.ZERO;
    BigInteger lower = BigInteger.ONE;

    private int find(int f) {
        finding = f;
        found[f]++;
        return -3;
    }

    private int say(int v) {
        asked = v;
        return 1;
    }

    private void ratio(BigInteger up, BigInteger low) {
        BigInteger d = up.gcd(low);
        upper = up.divide(d);
        lower = low.divide(d);
    }

    private static boolean in(int v, int low, int high) {
        return low <= v && v <= high;
    }

    // what a death is and does

    private static boolean king(Death d) {
        return d.letter == 'k';
    }

    private static boolean good(Death d) {
        return "gsk".indexOf(d.letter) >= 0;
    }

    private static int answer(char letter, int worth, int leaves) {
        int more = (int) Math.floor((worth + 2) / 3.0);
        if (letter == 'd') {
            return leaves == 0 ? 0 : leaves - 1;
        } else if (letter == 'f') {
            return leaves >> 1;
        } else if (letter == 'b') {
            return 0;
        } else if (letter == 'g') {
            return leaves + more > 9 ? 9 : leaves + more;
        } else if (letter == 's') {
            int then = answer('g', worth, leaves);
            return then == 9 ? 9 : then + 1;
        }
        return answer('g', worth, answer('g', worth, leaves));
    }

    private boolean free(Now now, int i) {
        if (now.told[i]) {
            return false;
        }
        for (int j = 0; j < deaths.size(); j++) {
            if (king(deaths.get(i)) && !king(deaths.get(j)) && !now.told[j]) {
                return false;
            }
        }
        return true;
    }

    private int haunted(boolean[] told, int b) {
        int by = 0;
        for (int i = 0; i < deaths.size(); i++) {
            Death d = deaths.get(i);
            if (d.bough == b && !told[i]) {
                by += d.letter == 'k' ? 2 : d.letter == 'f' || d.letter == 'b' ? 0 : 1;
            }
        }
        return by;
    }

    private Now dawn(Now now) {
        Now then = new Now(now.leaves.clone(), now.told.clone(), now.morning + 1);
        for (int b = 0; b < 8; b++) {
            int by = haunted(now.told, b);
            int leaves = by == 0 ? now.leaves[b] + 1 : now.leaves[b] - by;
            then.leaves[b] = leaves < 0 ? 0 : leaves > 9 ? 9 : leaves;
        }
        return then;
    }

    private Now tellIt(Now now, int i) {
        Now then = now.copy();
        Death d = deaths.get(i);
        then.told[i] = true;
        then.leaves[d.bough] = answer(d.letter, d.worth, now.leaves[d.bough]);
        return then;
    }

    private Now step(Now now, Deed deed) {
        Now then = now.copy();
        switch (deed.what) {
            case 'm': return dawn(now);
            case 't': return tellIt(now, deed.which);
            case 'w': then.leaves[deed.which] = Math.min(9, now.leaves[deed.which] + deed.much); return then;
            case 'p': then.leaves[deed.which] = 0; return then;
            default: return then;
        }
    }

    private Now now() {
        Now now = new Now(first.clone(), new boolean[deaths.size()], 0);
        for (Deed deed : deeds) {
            now = step(now, deed);
        }
        return now;
    }

    private static int bits(boolean[] set) {
        int bits = 0;
        for (int i = 0; i < set.length; i++) {
            bits += set[i] ? 1 << i : 0;
        }
        return bits;
    }

    private boolean[] set(int bits) {
        boolean[] set = new boolean[deaths.size()];
        for (int i = 0; i < set.length; i++) {
            set[i] = (bits & 1 << i) != 0;
        }
        return set;
    }

    // the calls

    int row(int r, int n) {
        if (!in(r, 0, 5) || n > 40) return BAD;
        if (n < 0) return find(5);
        rows[r] = new int[n];
        return n;
    }

    int lay(int r, int i, int v) {
        if (!in(r, 0, 5)) return BAD;
        if (rows[r] == null) return find(1);
        if (!in(i, 0, rows[r].length - 1)) return find(2);
        say(rows[r][i]);
        rows[r][i] = v;
        return 1;
    }

    int at(int r, int i) {
        if (!in(r, 0, 5)) return BAD;
        if (rows[r] == null) return find(1);
        if (!in(i, 0, rows[r].length - 1)) return find(2);
        return say(rows[r][i]);
    }

    int tear(int r) {
        if (!in(r, 0, 5)) return BAD;
        if (rows[r] == null) return find(1);
        rows[r] = null;
        return 1;
    }

    int copy(int r, int i, int to, int j, int n) {
        if (!in(r, 0, 5) || !in(to, 0, 5)) return BAD;
        if (n < 0) return find(5);
        if (rows[r] == null || rows[to] == null) return find(1);
        if (i < 0 || (long) i + n > rows[r].length || j < 0 || (long) j + n > rows[to].length) return find(2);
        int[] from = rows[r].clone();
        for (int k = 0; k < n; k++) rows[to][j + k] = from[i + k];
        return 1;
    }

    int mean(int r) {
        if (!in(r, 0, 5)) return BAD;
        if (rows[r] == null) return find(1);
        if (rows[r].length == 0) return find(4);
        BigInteger sum = BigInteger.ZERO;
        for (int v : rows[r]) sum = sum.add(BigInteger.valueOf(v));
        return say(sum.divide(BigInteger.valueOf(rows[r].length)).intValueExact());
    }

    int text(int t, int n) {
        if (!in(t, 0, 3) || n > 60) return BAD;
        if (n < 0) return find(5);
        texts[t] = " ".repeat(n).getBytes();
        return n;
    }

    int put(int t, int i, int v) {
        if (!in(t, 0, 3)) return BAD;
        if (texts[t] == null) return find(1);
        if (!in(i, 0, texts[t].length - 1)) return find(2);
        int was = texts[t][i];
        texts[t][i] = (byte) v;
        return 1000 + was;
    }

    private String chars(int t) {
        StringBuilder s = new StringBuilder();
        for (byte b : texts[t]) s.append((char) (b & 255));
        return s.toString();
    }

    int fault(int t) {
        if (!in(t, 0, 3)) return BAD;
        if (texts[t] == null) return find(1);
        String text = chars(t);
        for (int n = 1; n <= text.length(); n++) {
            Matcher m = GREEN.matcher(text.substring(0, n));
            if (!m.matches() && !m.hitEnd()) return n - 1;
        }
        return GREEN.matcher(text).matches() ? NONE : text.length();
    }

    int green(int t) {
        int fault = fault(t);
        if (fault == BAD || fault == -3) return fault;
        if (fault != NONE) return STATE;
        String text = chars(t).replace(" ", "");
        deaths = new ArrayList<>();
        for (int b = 0; b < 8; b++) first[b] = text.charAt(1 + b) - '0';
        for (int i = 9; i < text.length(); i += 3) {
            deaths.add(new Death(text.charAt(i), text.charAt(i + 1) - '0', text.charAt(i + 2) - '0'));
        }
        deeds = new ArrayList<>();
        for (int k = 0; k < 3; k++) kept.set(k, null);
        return deaths.size();
    }

    int bough(int b, int what) {
        if (!in(b, 0, 7) || !in(what, 0, 2)) return BAD;
        if (deaths.isEmpty()) return STATE;
        if (what == 0) return say(now().leaves[b]);
        if (what == 2) return say(haunted(now().told, b));
        boolean[] of = new boolean[deaths.size()];
        for (int i = 0; i < of.length; i++) of[i] = deaths.get(i).bough == b;
        return say(bits(of));
    }

    private int fact(int i, int what) {
        Death d = deaths.get(i);
        switch (what) {
            case 0: return "dgfbsk".indexOf(d.letter);
            case 1: return d.bough;
            case 2: return d.worth;
            case 3: return now().told[i] ? 1 : 0;
            case 4: return free(now(), i) ? 1 : 0;
            default: return tellIt(now(), i).leaves[d.bough];
        }
    }

    int death(int i, int what) {
        if (!in(i, 0, deaths.size() - 1) || !in(what, 0, 5)) return BAD;
        return say(fact(i, what));
    }

    int mark(int i, int kind) {
        if (!in(i, 0, deaths.size() - 1) || !in(kind, 1, 5)) return BAD;
        Death d = deaths.get(i);
        char letter = "dgfbsk".charAt(kind);
        if (d.letter != letter && !(letter == 'g' && good(d))) return find(3);
        Now now = now();
        int untold = 0;
        if (letter == 'g') {
            for (int n = 0; n <= 9; n++) if (answer(d.letter, d.worth, n) == 9) return n;
        } else if (letter == 'f') {
            return now.leaves[d.bough] - tellIt(now, i).leaves[d.bough];
        } else if (letter == 'b') {
            for (int b = 0; b < 8; b++) untold += b == d.bough ? 0 : now.leaves[b];
            return untold;
        }
        for (int j = 0; j < deaths.size(); j++) {
            boolean counts = letter == 's' ? good(deaths.get(j)) : !king(deaths.get(j));
            untold += counts && !now.told[j] ? 1 : 0;
        }
        return untold;
    }

    private boolean full(int more) {
        return deeds.size() + more > 40;
    }

    int morning() {
        if (deaths.isEmpty()) return STATE;
        if (full(1)) return FULL;
        deeds.add(new Deed('m', 0, 0));
        return now().sum();
    }

    int tell(int i) {
        if (!in(i, 0, deaths.size() - 1)) return BAD;
        if (!free(now(), i)) return STATE;
        if (full(1)) return FULL;
        deeds.add(new Deed('t', i, 0));
        return now().leaves[deaths.get(i).bough];
    }

    int water(int b, int n) {
        if (!in(b, 0, 7) || !in(n, 1, 9)) return BAD;
        if (deaths.isEmpty() || now().leaves[b] == 9) return STATE;
        if (full(1)) return FULL;
        deeds.add(new Deed('w', b, n));
        return now().leaves[b];
    }

    int prune(int b) {
        if (!in(b, 0, 7)) return BAD;
        if (deaths.isEmpty() || now().leaves[b] == 0) return STATE;
        if (full(1)) return FULL;
        int had = now().leaves[b];
        deeds.add(new Deed('p', b, 0));
        return had;
    }

    int undo(int n) {
        if (!in(n, 0, deeds.size())) return BAD;
        int undone = deeds.size() - n;
        deeds = new ArrayList<>(deeds.subList(0, n));
        return undone;
    }

    int keep(int k) {
        if (!in(k, 0, 2)) return BAD;
        if (deaths.isEmpty()) return STATE;
        kept.set(k, new ArrayList<>(deeds));
        return deeds.size();
    }

    int on(int k) {
        if (!in(k, 0, 2)) return BAD;
        if (kept.get(k) == null) return find(1);
        deeds = new ArrayList<>(kept.get(k));
        return deeds.size();
    }

    int answers(int i, int worth, int leaves) {
        if (!in(i, 0, deaths.size() - 1) || !in(worth, 0, 9) || !in(leaves, 0, 9)) return BAD;
        return answer(deaths.get(i).letter, worth, leaves);
    }

    int leaves(int n) {
        if (!in(n, 0, 40)) return BAD;
        if (deaths.isEmpty()) return STATE;
        Now then = now();
        for (int k = 0; k < n; k++) then = dawn(then);
        say((int) Arrays.stream(then.leaves).filter(v -> v == 0).count());
        return then.sum();
    }

    int bare(int b) {
        if (!in(b, 0, 7)) return BAD;
        if (deaths.isEmpty()) return STATE;
        Now then = now();
        for (int k = 0; k <= 40; k++, then = dawn(then)) if (then.leaves[b] == 0) return k;
        return NONE;
    }

    /** All orders of some length in which deaths can be told, as they come in a dictionary. */
    private void orders(Now now, List<Integer> ahead, int length, List<List<Integer>> into, List<Now> ends) {
        if (ahead.size() == length) {
            into.add(new ArrayList<>(ahead));
            ends.add(now);
            return;
        }
        for (int i = 0; i < deaths.size(); i++) {
            if (free(now, i)) {
                ahead.add(i);
                orders(tellIt(now, i), ahead, length, into, ends);
                ahead.remove(ahead.size() - 1);
            }
        }
    }

    int round(int set, int r) {
        if (!in(r, 0, 5) || !in(set, 0, (1 << deaths.size()) - 1)) return BAD;
        if (deaths.isEmpty() || (set & bits(now().told)) != 0) return STATE;
        List<List<Integer>> orders = new ArrayList<>();
        List<Now> ends = new ArrayList<>();
        orders(now(), new ArrayList<>(), Integer.bitCount(set), orders, ends);
        int most = NONE;
        for (int k = 0; k < ends.size(); k++) {
            if ((bits(ends.get(k).told) & ~bits(now().told)) == set && ends.get(k).sum() > most) {
                most = ends.get(k).sum();
                rows[r] = orders.get(k).stream().mapToInt(i -> i).toArray();
            }
        }
        return most;
    }

    int plan(int b, int v, int r) {
        if (!in(b, 0, 7) || !in(v, 0, 9) || !in(r, 0, 5)) return BAD;
        if (deaths.isEmpty()) return STATE;
        for (int n = 0; n <= 6; n++) {
            List<List<Integer>> orders = new ArrayList<>();
            List<Now> ends = new ArrayList<>();
            orders(now(), new ArrayList<>(), n, orders, ends);
            for (int k = 0; k < ends.size(); k++) {
                if (ends.get(k).leaves[b] >= v) {
                    rows[r] = orders.get(k).stream().mapToInt(i -> i).toArray();
                    return n;
                }
            }
        }
        return NONE;
    }

    private int leavesBehind(int set, int b, int mornings) {
        Now then = new Now(now().leaves, set(set), 0);
        for (int k = 0; k < mornings; k++) then = dawn(then);
        return then.leaves[b];
    }

    private int watch(int b, int r) {
        if (!in(b, 0, 7) || !in(r, 0, 5)) return BAD;
        if (deaths.isEmpty()) return STATE;
        if (rows[r] == null) return find(1);
        if (!in(rows[r].length, 1, 10)) return find(5);
        for (int v : rows[r]) if (!in(v, 0, 9)) return find(3);
        return 0;
    }

    private List<Integer> told(int b, int r) {
        List<Integer> sets = new ArrayList<>();
        for (int set = 0; set < 1 << deaths.size(); set++) {
            boolean fits = true;
            for (int m = 0; fits && m < rows[r].length; m++) fits = leavesBehind(set, b, m + 1) == rows[r][m];
            if (fits) sets.add(set);
        }
        return sets;
    }

    int about(int b, int r) {
        int refusal = watch(b, r);
        if (refusal != 0) return refusal;
        List<Integer> sets = told(b, r);
        ratio(BigInteger.valueOf(sets.size()), BigInteger.ONE);
        return say(sets.isEmpty() ? NONE : sets.get(0));
    }

    /** Bits of those in each of some sets (or in none of them). */
    private int common(List<Integer> sets, boolean in) {
        boolean[] each = new boolean[deaths.size()];
        for (int i = 0; i < each.length; i++) {
            int bit = 1 << i;
            each[i] = sets.stream().allMatch(set -> (set & bit) != 0 == in);
        }
        return bits(each);
    }

    int sure(int b, int r) {
        int refusal = watch(b, r);
        if (refusal != 0) return refusal;
        List<Integer> sets = told(b, r);
        say(common(sets, false));
        return common(sets, true);
    }

    int next(int b, int r) {
        int refusal = watch(b, r);
        if (refusal != 0) return refusal;
        List<Integer> sets = told(b, r);
        if (sets.isEmpty()) return NONE;
        int[] greatest = new int[8];
        for (int o = 0; o < 8; o++) {
            int[] parts = new int[10];
            for (int set : sets) parts[leavesBehind(set, o, rows[r].length)]++;
            greatest[o] = Arrays.stream(parts).max().getAsInt();
        }
        int least = Arrays.stream(greatest).min().getAsInt();
        say(least);
        for (int o = 0; o < 8; o++) if (greatest[o] == least) return o;
        return NONE;
    }

    private int pairs(int i, int r) {
        if (!in(i, 0, deaths.size() - 1) || !in(r, 0, 5)) return BAD;
        if (rows[r] == null) return find(1);
        if (rows[r].length % 2 == 1 || rows[r].length > 16) return find(5);
        for (int v : rows[r]) if (!in(v, 0, 9)) return find(3);
        return 0;
    }

    private boolean answered(char letter, int worth, int r) {
        for (int k = 0; k < rows[r].length; k += 2) {
            if (answer(letter, worth, rows[r][k]) != rows[r][k + 1]) return false;
        }
        return true;
    }

    int worths(int i, int r) {
        int refusal = pairs(i, r);
        if (refusal != 0) return refusal;
        int bits = 0;
        for (int w = 0; w < 10; w++) bits += answered(deaths.get(i).letter, w, r) ? 1 << w : 0;
        return bits;
    }

    int kinds(int i, int r) {
        int refusal = pairs(i, r);
        if (refusal != 0) return refusal;
        int bits = 0;
        for (int k = 0; k < 6; k++) bits += answered("dgfbsk".charAt(k), deaths.get(i).worth, r) ? 1 << k : 0;
        return bits;
    }

    private List<Integer> ofWorth(int v) {
        List<Integer> sets = new ArrayList<>();
        for (int set = 0; set < 1 << deaths.size(); set++) {
            int sum = 0;
            for (int i = 0; i < deaths.size(); i++) sum += set(set)[i] ? deaths.get(i).worth : 0;
            if (sum == v) sets.add(set);
        }
        return sets;
    }

    int sets(int v) {
        if (!in(v, 0, 54)) return BAD;
        if (deaths.isEmpty()) return STATE;
        List<Integer> sets = ofWorth(v);
        ratio(BigInteger.valueOf(sets.size()), BigInteger.ONE);
        return say(sets.isEmpty() ? NONE : sets.get(0));
    }

    int surely(int v) {
        if (!in(v, 0, 54)) return BAD;
        if (deaths.isEmpty()) return STATE;
        List<Integer> sets = ofWorth(v);
        if (sets.isEmpty()) return find(4);
        say(common(sets, false));
        return common(sets, true);
    }

    private int lead(Now now, int turn, int turns) {
        if (turn == turns) {
            int[] l = dawn(now).leaves;
            return l[0] - l[1] + l[2] - l[3] + l[4] - l[5] + l[6] - l[7];
        }
        List<Integer> leads = new ArrayList<>(List.of(lead(now, turn + 1, turns)));
        for (int i = 0; i < deaths.size(); i++) {
            if (free(now, i)) leads.add(lead(tellIt(now, i), turn + 1, turns));
        }
        leads.sort(null);
        return turn % 2 == 0 ? leads.get(leads.size() - 1) : leads.get(0);
    }

    int duel(int n) {
        if (!in(n, 0, 2)) return BAD;
        if (deaths.isEmpty()) return STATE;
        return say(lead(now(), 0, 2 * n));
    }

    /** Adds each end with its weight of 12 by the number of deaths. */
    private void ends(Now now, int i, int p, BigInteger weight, List<Now> ends, List<BigInteger> weights) {
        if (i == deaths.size()) {
            ends.add(now);
            weights.add(weight);
            return;
        }
        if (!free(now, i)) {
            ends(now, i + 1, p, weight.multiply(BigInteger.valueOf(12)), ends, weights);
            return;
        }
        ends(tellIt(now, i), i + 1, p, weight.multiply(BigInteger.valueOf(p)), ends, weights);
        ends(now, i + 1, p, weight.multiply(BigInteger.valueOf(12 - p)), ends, weights);
    }

    private int chance(int b, int v, int p) {
        List<Now> ends = new ArrayList<>();
        List<BigInteger> weights = new ArrayList<>();
        ends(now(), 0, p, BigInteger.ONE, ends, weights);
        BigInteger sum = BigInteger.ZERO;
        for (int k = 0; k < ends.size(); k++) {
            int times = b < 0 ? ends.get(k).sum() : ends.get(k).leaves[b] >= v ? 1 : 0;
            sum = sum.add(weights.get(k).multiply(BigInteger.valueOf(times)));
        }
        ratio(sum, BigInteger.valueOf(12).pow(deaths.size()));
        return 1;
    }

    int odds(int b, int v, int p) {
        if (!in(b, 0, 7) || !in(v, 0, 9) || !in(p, 0, 12)) return BAD;
        return deaths.isEmpty() ? STATE : chance(b, v, p);
    }

    int mid(int p) {
        if (!in(p, 0, 12)) return BAD;
        return deaths.isEmpty() ? STATE : chance(-1, 0, p);
    }

    int lots(int n, int seed) {
        if (!in(n, 1, 20) || !in(seed, 1, 2147483646)) return BAD;
        if (deaths.isEmpty()) return STATE;
        if (full(n)) return FULL;
        BigInteger lot = BigInteger.valueOf(seed);
        for (int k = 0; k < n; k++) {
            lot = lot.multiply(BigInteger.valueOf(48271)).mod(BigInteger.valueOf(2147483647));
            int it = lot.intValueExact();
            int i = it % deaths.size();
            int b = it / 64 % 8;
            switch (it / 8 % 8) {
                case 0: case 1: case 2: case 3: deeds.add(new Deed('m', 0, 0)); break;
                case 4: case 5: deeds.add(new Deed(free(now(), i) ? 't' : 'n', i, 0)); break;
                case 6: deeds.add(new Deed('w', b, 2)); break;
                default: deeds.add(new Deed('p', b, 0)); break;
            }
        }
        return now().sum();
    }

    int count(int what) {
        Now now = now();
        boolean[] free = new boolean[deaths.size()];
        for (int i = 0; i < free.length; i++) free[i] = free(now, i);
        boolean[] bare = new boolean[8];
        for (int b = 0; b < 8; b++) bare[b] = !deaths.isEmpty() && now.leaves[b] == 0;
        switch (what) {
            case 0: return deaths.size();
            case 1: return now.sum();
            case 2: return now.morning;
            case 3: return deeds.size();
            case 4: return bits(now.told);
            case 5: return bits(free);
            case 6: return bits(bare);
            case 7: return (int) deaths.stream().filter(Model::good).count();
            case 8: return (int) deaths.stream().filter(Model::king).count();
            case 9: return (int) Arrays.stream(rows).filter(r -> r != null).count();
            case 10: return (int) Arrays.stream(texts).filter(t -> t != null).count();
            case 11: return (int) kept.stream().filter(k -> k != null).count();
            default: return BAD;
        }
    }

    int findings(int f) {
        return in(f, 1, 5) ? found[f] : BAD;
    }

    long digest() {
        List<Integer> values = new ArrayList<>();
        for (int what = 0; what < 12; what++) values.add(count(what));
        for (int v : now().leaves) values.add(v);
        for (int i = 0; i < deaths.size(); i++) {
            for (int what = 0; what < 6; what++) values.add(fact(i, what));
        }
        for (List<Deed> k : kept) values.add(k == null ? -1 : k.size());
        for (int[] row : rows) {
            values.add(row == null ? -1 : row.length);
            if (row != null) for (int v : row) values.add(v);
        }
        for (byte[] text : texts) {
            values.add(text == null ? -1 : text.length);
            if (text != null) for (byte v : text) values.add((int) v);
        }
        long h = 17;
        for (int v : values) h = 31 * h + v;
        return h;
    }
}
