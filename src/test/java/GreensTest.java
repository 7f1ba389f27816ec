/** Promises 10 to 14: faults, greens, boughs, deaths, marks. */
public final class GreensTest {
    private static final Check C = new Check();
    private static final int NOTHING = Check.NOTHING, UNLIKE = Check.UNLIKE;
    private static final int MIN = Integer.MIN_VALUE, MAX = Integer.MAX_VALUE;
    private static final int[] NO_TEXT = {-1, 4, MIN, MAX};

    public static void main(String[] args) {
        fault();
        green();
        bough();
        death();
        mark();
        C.end();
    }

    private static void fault() {
        C.promise(10);
        C.says("A FAULT of a TEXT;");
        LimeDeaths x = new LimeDeaths();
        Check.write(x, 0, "t57301946 d05x");
        C.refuses("a fault tells, and changes nothing", x, () -> x.fault(0), 13);
        Check.write(x, 1, "x");
        C.due("a fault at 0", x.fault(1), 0);
        x.text(2, 60);
        C.due("a fault at 60", x.fault(2), 60);
        x.text(2, 0);
        C.due("a fault of an empty one", x.fault(2), 0);
        C.says("NONE: there is none.");
        for (int t = 0; t < 4; t++) {
            int text = t;
            Check.write(x, t, Check.SIX);
            C.refuses("no fault of text " + t, x, () -> x.fault(text), LimeDeaths.NONE);
        }
        C.due("no green by it", x.count(0), 0);
        C.says("BAD;");
        for (int t : NO_TEXT) {
            C.bad("fault(" + t + ")", x, () -> x.fault(t));
        }
        C.says("NOTHING.");
        LimeDeaths none = new LimeDeaths();
        for (int t = 0; t < 4; t++) {
            int text = t;
            C.finds("fault of missing " + t, none, () -> none.fault(text), NOTHING);
        }
    }

    private static LimeDeaths used() {
        LimeDeaths x = Check.green(Check.SIX);
        x.tell(0);
        x.morning();
        for (int k = 0; k < 3; k++) {
            x.keep(k);
        }
        return x;
    }

    private static void green() {
        C.promise(11);
        C.says("A GREEN by a TEXT (anew: MORNING 0, nothing TOLD, no DEEDS;");
        LimeDeaths x = used();
        Check.write(x, 3, "t00000001k79");
        C.due("green anew", x.green(3), 1);
        C.due("morning 0", x.count(2), 0);
        C.due("nothing told", x.count(4), 0);
        C.due("no deeds", x.count(3), 0);
        C.boughs("green anew", x, 0, 0, 0, 0, 0, 0, 0, 1);
        C.bad("nothing to undo", x, () -> x.undo(1));
        x.put(3, 8, '9');
        C.due("a green is not its text", x.count(1), 1);
        LimeDeaths same = used();
        C.due("the same green anew", same.green(0), 6);
        C.boughs("the same green anew", same, 5, 7, 3, 0, 1, 9, 4, 6);
        C.due("nothing told", same.count(4), 0);
        greensInTurn();
        C.says("kept GREENS go):");
        LimeDeaths y = used();
        C.due("three kept", y.count(11), 3);
        y.green(0);
        C.due("none kept", y.count(11), 0);
        for (int k = 0; k < 3; k++) {
            int place = k;
            C.finds("on(" + k + ")", y, () -> y.on(place), NOTHING);
        }
        C.says("how many DEATHS.");
        StringBuilder text = new StringBuilder("t00000000");
        for (int n = 1; n <= 6; n++) {
            text.append("d00");
            Check.write(y, 2, text.toString());
            C.due("green of " + n, y.green(2), n);
            C.due("deaths", y.count(0), n);
            int beyond = n;
            C.bad("death beyond " + n, y, () -> y.death(beyond, 0));
        }
        C.says("BAD;");
        for (int t : NO_TEXT) {
            C.bad("green(" + t + ")", x, () -> x.green(t));
        }
        greenRefusals();
    }

    /** Nothing of an earlier green, nor of a text that was looked at, stays in a later one. */
    private static void greensInTurn() {
        LimeDeaths x = new LimeDeaths();
        Check.write(x, 0, "t99999999d00d10d20d30d40d50");
        Check.write(x, 1, "t00000000k01");
        Check.write(x, 2, "t11111111k01k11k21k31k41x");
        for (int k = 0; k < 4; k++) {
            C.due("six deaths", x.green(0), 6);
            C.due("no fault", x.fault(0), LimeDeaths.NONE);
            C.due("one king", x.green(1), 1);
            C.due("it can be told", x.count(5), 1);
            C.due("it is the only king", x.count(8), 1);
            C.boughs("its boughs", x, 0, 0, 0, 0, 0, 0, 0, 0);
            C.due("told", x.tell(0), 2);
            C.refuses("a fault", x, () -> x.green(2), LimeDeaths.STATE);
            C.due("one king still", x.count(0), 1);
        }
    }

    private static void greenRefusals() {
        C.says("NOTHING;");
        LimeDeaths x = used();
        C.finds("green of missing", x, () -> x.green(3), NOTHING);
        C.says("STATE: a FAULT.");
        for (String text : new String[] {"", " ", "t0000000", "t00000000", "t00000000d0", "t00000000x00",
            "t00000000d00d00d00d00d00d00d00", "t00000000d00."}) {
            Check.write(x, 2, text);
            C.refuses("green of '" + text + "'", x, () -> x.green(2), LimeDeaths.STATE);
        }
        C.due("the green stays", x.count(0), 6);
        C.due("kept ones stay", x.count(11), 3);
        C.due("deeds stay", x.undo(0), 2);
        C.boughs("the green stays", x, 5, 7, 3, 0, 1, 9, 4, 6);
        LimeDeaths y = new LimeDeaths();
        Check.write(y, 2, "t99999999d00x");
        C.refuses("green of a fault at first", y, () -> y.green(2), LimeDeaths.STATE);
        C.refuses("no green then", y, y::morning, LimeDeaths.STATE);
        C.says("(STATE behind NOTHING.)");
        C.finds("a missing text has no fault", y, () -> y.green(0), NOTHING);
    }

    private static void bough() {
        C.promise(12);
        LimeDeaths x = Check.green(Check.SIX);
        C.says("Of a BOUGH (0 .. 7): 0 its LEAVES,");
        int[] leaves = {5, 7, 3, 0, 1, 9, 4, 6};
        for (int b = 0; b < 8; b++) {
            int bough = b;
            C.tells("bough(" + b + ", 0)", x, () -> x.bough(bough, 0), leaves[b]);
        }
        x.prune(7);
        C.tells("bough(7, 0) pruned", x, () -> x.bough(7, 0), 0);
        C.says("1 DEATHS of it (bits),");
        int[] bits = {5, 18, 8, 32, 0, 0, 0, 0};
        for (int told = 0; told < 2; told++) {
            for (int b = 0; b < 8; b++) {
                int bough = b;
                C.tells("bough(" + b + ", 1)", x, () -> x.bough(bough, 1), bits[b]);
            }
            x.tell(0);
            x.tell(4);
        }
        LimeDeaths y = Check.green("t00000000k79k70g70s70d70d70");
        C.tells("all on one", y, () -> y.bough(7, 1), 63);
        C.says("2 by how much it is HAUNTED, told by asked(): 1.");
        C.tells("haunted by all", y, () -> y.bough(7, 2), 8);
        C.tells("by none", y, () -> y.bough(0, 2), 0);
        LimeDeaths z = Check.green(Check.SIX);
        int[] haunted = {1, 2, 0, 2, 0, 0, 0, 0};
        for (int b = 0; b < 8; b++) {
            int bough = b;
            C.tells("bough(" + b + ", 2)", z, () -> z.bough(bough, 2), haunted[b]);
        }
        z.tell(4);
        C.tells("one told", z, () -> z.bough(1, 2), 1);
        z.tell(1);
        C.tells("both told", z, () -> z.bough(1, 2), 0);
        boughRefusals(x);
    }

    private static void boughRefusals(LimeDeaths x) {
        C.says("BAD;");
        for (int b : new int[] {-1, 8, MIN, MAX}) {
            C.bad("bough(" + b + ", 0)", x, () -> x.bough(b, 0));
        }
        for (int what : new int[] {-1, 3, MIN, MAX}) {
            C.bad("bough(0, " + what + ")", x, () -> x.bough(0, what));
        }
        LimeDeaths none = new LimeDeaths();
        C.bad("bough(8, 0) without deaths, BAD ahead of STATE", none, () -> none.bough(8, 0));
        C.bad("bough(0, 3) without deaths, BAD ahead of STATE", none, () -> none.bough(0, 3));
        C.says("STATE: no DEATHS.");
        for (int what = 0; what < 3; what++) {
            int which = what;
            C.refuses("bough without deaths", none, () -> none.bough(7, which), LimeDeaths.STATE);
        }
    }

    private static void fact(LimeDeaths x, int what, int... wants) {
        for (int i = 0; i < wants.length; i++) {
            int death = i;
            C.tells("death(" + i + ", " + what + ")", x, () -> x.death(death, what), wants[i]);
        }
    }

    private static void death() {
        C.promise(13);
        LimeDeaths x = Check.green(Check.SIX);
        C.says("Of a DEATH: 0 the KIND,");
        fact(x, 0, 0, 1, 2, 3, 4, 5);
        C.says("1 the BOUGH,");
        fact(x, 1, 0, 1, 0, 2, 1, 3);
        fact(Check.green("t00000000d79d09"), 1, 7, 0);
        C.says("2 the WORTH,");
        fact(x, 2, 5, 7, 0, 3, 4, 9);
        C.says("3 whether it is TOLD (1, 0),");
        fact(x, 3, 0, 0, 0, 0, 0, 0);
        x.tell(3);
        fact(x, 3, 0, 0, 0, 1, 0, 0);
        C.says("4 whether it can be TOLD now (1, 0),");
        fact(x, 4, 1, 1, 1, 0, 1, 0);
        x.tell(0);
        x.tell(1);
        x.tell(2);
        fact(x, 4, 0, 0, 0, 0, 1, 0);
        x.tell(4);
        fact(x, 4, 0, 0, 0, 0, 0, 1);
        x.tell(5);
        fact(x, 4, 0, 0, 0, 0, 0, 0);
        LimeDeaths f = Check.full(Check.SIX);
        fact(f, 4, 1, 1, 1, 1, 1, 0);
        C.says("5 how many LEAVES its BOUGH would have, TOLD of it now (TOLD or not, whether it can or not),");
        LimeDeaths y = Check.green(Check.SIX);
        fact(y, 5, 4, 9, 2, 0, 9, 6);
        y.tell(0);
        fact(y, 5, 3, 9, 2, 0, 9, 6);
        y.water(2, 5);
        y.prune(1);
        fact(y, 5, 3, 3, 2, 0, 3, 6);
        C.says("told by asked(): 1.");
        C.due("death tells, and changes nothing", y.count(3), 3);
        C.says("BAD.");
        for (int i : new int[] {-1, 6, MIN, MAX}) {
            C.bad("death(" + i + ", 0)", x, () -> x.death(i, 0));
        }
        for (int what : new int[] {-1, 6, MIN, MAX}) {
            C.bad("death(0, " + what + ")", x, () -> x.death(0, what));
        }
        LimeDeaths two = Check.green("t00000000d79d09");
        C.bad("death(2, 0) of two", two, () -> two.death(2, 0));
        LimeDeaths none = new LimeDeaths();
        C.bad("death(0, 0) without deaths", none, () -> none.death(0, 0));
    }

    private static void mark() {
        C.promise(14);
        C.says("What a DEATH that IS of a KIND tells: a GOOD one (SOLDIER, KING, too) the fewest LEAVES (0 .. 9) of "
            + "which, TOLD of it, there would be 9,");
        LimeDeaths goods = Check.green("t00000000g00g01g03g04g07g09");
        LimeDeaths soldiers = Check.green("t99999999s00s01s03s04s07s09");
        LimeDeaths kings = Check.green("t00000000k00k01k03k04k07k09");
        int[] ofGoods = {9, 8, 8, 7, 6, 6};
        int[] ofSoldiers = {8, 7, 7, 6, 5, 5};
        int[] ofKings = {9, 7, 7, 5, 3, 3};
        for (int i = 0; i < 6; i++) {
            C.due("a good one's mark " + i, goods.mark(i, 1), ofGoods[i]);
            C.due("a soldier's mark as a good one " + i, soldiers.mark(i, 1), ofSoldiers[i]);
            C.due("a king's mark as a good one " + i, kings.mark(i, 1), ofKings[i]);
        }
        C.says("a FALSE one how many its BOUGH would lose now, TOLD of it,");
        LimeDeaths f = Check.green("t01279000f00f10f20f30f40");
        int[] lost = {0, 1, 1, 4, 5};
        for (int i = 0; i < 5; i++) {
            C.due("a false one's mark " + i, f.mark(i, 2), lost[i]);
        }
        f.tell(4);
        C.due("a false one's mark, told", f.mark(4, 2), 2);
        C.says("a BEAST how many LEAVES all other BOUGHS have,");
        LimeDeaths b = Check.green("t57301946b03b73");
        C.due("a beast's mark", b.mark(0, 3), 30);
        C.due("another one's", b.mark(1, 3), 29);
        b.tell(0);
        C.due("a beast's mark, told", b.mark(0, 3), 30);
        C.due("another one's then", b.mark(1, 3), 24);
        LimeDeaths full = Check.green("t99999999b00");
        C.due("a beast's greatest mark", full.mark(0, 3), 63);
        LimeDeaths bare = Check.green("t90000000b00");
        C.due("a beast's least mark", bare.mark(0, 3), 0);
        markOfMany();
    }

    private static void markOfMany() {
        C.says("a SOLDIER how many DEATHS that are GOOD ones (SOLDIERS, KINGS, too) are not TOLD,");
        LimeDeaths x = Check.green(Check.SIX);
        C.due("a soldier's mark", x.mark(4, 4), 3);
        x.tell(0);
        C.due("a death does not matter", x.mark(4, 4), 3);
        x.tell(1);
        C.due("a good one told", x.mark(4, 4), 2);
        x.tell(4);
        C.due("itself told", x.mark(4, 4), 1);
        x.tell(2);
        x.tell(3);
        x.tell(5);
        C.due("all told", x.mark(4, 4), 0);
        C.due("six", Check.green("t00000000s00s00g00g00k00k00").mark(1, 4), 6);
        C.says("a KING how many that are no KINGS are not TOLD.");
        LimeDeaths y = Check.green(Check.SIX);
        for (int i = 0; i < 5; i++) {
            C.due("a king's mark, " + i + " told", y.mark(5, 5), 5 - i);
            y.tell(i);
        }
        C.due("a king's mark, all others told", y.mark(5, 5), 0);
        C.due("kings alone", Check.green("t00000000k00k00k00").mark(1, 5), 0);
        C.says("BAD: also KIND 0;");
        for (int kind : new int[] {0, -1, 6, MIN, MAX}) {
            C.bad("mark(1, " + kind + ")", x, () -> x.mark(1, kind));
            C.bad("mark(0, " + kind + ") of a death", x, () -> x.mark(0, kind));
        }
        for (int i : new int[] {-1, 6, MIN, MAX}) {
            C.bad("mark(" + i + ", 1)", x, () -> x.mark(i, 1));
        }
        LimeDeaths none = new LimeDeaths();
        C.bad("mark without deaths", none, () -> none.mark(0, 1));
        C.says("UNLIKE.");
        boolean[][] isOf = {{false, false, false, false, false}, {true, false, false, false, false},
            {false, true, false, false, false}, {false, false, true, false, false},
            {true, false, false, true, false}, {true, false, false, false, true}};
        for (int i = 0; i < 6; i++) {
            for (int kind = 1; kind <= 5; kind++) {
                int death = i;
                int asked = kind;
                if (isOf[i][kind - 1]) {
                    C.due("mark(" + i + ", " + kind + ") is told", x.mark(i, kind) >= 0 ? 1 : 0, 1);
                } else {
                    C.finds("mark(" + i + ", " + kind + ")", x, () -> x.mark(death, asked), UNLIKE);
                }
            }
        }
    }
}
