/** Promises 1 to 9: a new object, rows, texts. */
public final class RowsTest {
    private static final Check C = new Check();
    private static final int NOTHING = Check.NOTHING, BEYOND = Check.BEYOND, NOUGHT = Check.NOUGHT, SIZE = Check.SIZE;
    private static final int MIN = Integer.MIN_VALUE, MAX = Integer.MAX_VALUE;
    private static final int[] NO_ROW = {-1, 6, MIN, MAX};
    private static final int[] NO_TEXT = {-1, 4, MIN, MAX};

    public static void main(String[] args) {
        newObject();
        row();
        lay();
        at();
        tear();
        copy();
        mean();
        text();
        put();
        C.end();
    }

    private static void newObject() {
        C.promise(1);
        C.says("No ROWS, TEXTS, DEATHS.");
        LimeDeaths x = new LimeDeaths();
        for (int what = 0; what <= 11; what++) {
            C.due("count(" + what + ")", x.count(what), 0);
        }
        for (int r = 0; r < 6; r++) {
            int row = r;
            C.finds("at(" + r + ", 0)", x, () -> x.at(row, 0), NOTHING);
        }
        for (int t = 0; t < 4; t++) {
            int text = t;
            C.finds("fault(" + t + ")", x, () -> x.fault(text), NOTHING);
        }
        C.bad("death(0, 0)", x, () -> x.death(0, 0));
        long fresh = new LimeDeaths().digest();
        Check.lay(Check.full(Check.SIX), 0, 7).keep(0);
        C.due("a new one has nothing of one in use", new LimeDeaths().digest(), fresh);
    }

    private static void row() {
        C.promise(2);
        C.says("A ROW is there with n ints 0: n.");
        LimeDeaths x = new LimeDeaths();
        for (int r = 0; r < 6; r++) {
            C.due("row(" + r + ", 40)", x.row(r, 40), 40);
            C.due("rows there", x.count(9), r + 1);
        }
        for (int n : new int[] {0, 1, 7, 39, 40}) {
            C.due("row(5, " + n + ")", x.row(5, n), n);
            C.row("row(5, " + n + ")", x, 5, new int[n]);
        }
        Check.lay(x, 5, 8, 9, 10);
        C.due("row anew", x.row(5, 3), 3);
        C.row("row anew", x, 5, 0, 0, 0);
        Check.lay(x, 5, 8, 9, 10);
        x.row(5, 1);
        C.due("row longer again", x.row(5, 3), 3);
        C.row("row longer again", x, 5, 0, 0, 0);
        C.due("still six", x.count(9), 6);
        C.says("BAD: also n above 40;");
        for (int r : NO_ROW) {
            C.bad("row(" + r + ", 1)", x, () -> x.row(r, 1));
            C.bad("row(" + r + ", -1), BAD ahead of SIZE", x, () -> x.row(r, -1));
        }
        C.bad("row(0, 41)", x, () -> x.row(0, 41));
        C.bad("row(5, max)", x, () -> x.row(5, MAX));
        C.says("SIZE: below 0.");
        C.finds("row(0, -1)", x, () -> x.row(0, -1), SIZE);
        C.finds("row(5, min)", x, () -> x.row(5, MIN), SIZE);
        LimeDeaths none = new LimeDeaths();
        C.finds("row(0, -1) of a missing one", none, () -> none.row(0, -1), SIZE);
        C.due("it is missing still", none.count(9), 0);
    }

    private static void lay() {
        C.promise(3);
        C.says("Place i of a ROW is v: what it was, told by asked(): 1.");
        LimeDeaths x = Check.lay(new LimeDeaths(), 2, 1, 2, 3);
        C.tells("lay the first", x, () -> x.lay(2, 0, MIN), 1);
        C.tells("lay the last", x, () -> x.lay(2, 2, MAX), 3);
        C.row("laid", x, 2, MIN, 2, MAX);
        C.tells("lay again", x, () -> x.lay(2, 0, -9), MIN);
        C.tells("lay again", x, () -> x.lay(2, 2, 0), MAX);
        C.row("laid again", x, 2, -9, 2, 0);
        LimeDeaths all = new LimeDeaths();
        for (int r = 0; r < 6; r++) {
            int row = r;
            all.row(r, 40);
            C.tells("lay(" + r + ", 39, r)", all, () -> all.lay(row, 39, 100 + row), 0);
        }
        for (int r = 0; r < 6; r++) {
            C.due("laid in " + r + " alone", Check.told(all, all.at(r, 39)), 100 + r);
        }
        C.says("BAD;");
        for (int r : NO_ROW) {
            C.bad("lay(" + r + ", 0, 7)", x, () -> x.lay(r, 0, 7));
            C.bad("lay(" + r + ", -1, 7), BAD ahead of NOTHING", x, () -> x.lay(r, -1, 7));
        }
        C.says("NOTHING;");
        C.finds("lay(3, 0, 7)", x, () -> x.lay(3, 0, 7), NOTHING);
        C.finds("lay(3, -1, 7), NOTHING ahead of BEYOND", x, () -> x.lay(3, -1, 7), NOTHING);
        C.says("BEYOND.");
        C.finds("lay(2, 3, 7)", x, () -> x.lay(2, 3, 7), BEYOND);
        for (int i : Check.NO_INDEX) {
            C.finds("lay(2, " + i + ", 7)", x, () -> x.lay(2, i, 7), BEYOND);
        }
        C.finds("lay(5, 40, 7)", all, () -> all.lay(5, 40, 7), BEYOND);
        x.row(4, 0);
        C.finds("lay in an empty one", x, () -> x.lay(4, 0, 7), BEYOND);
    }

    private static void at() {
        C.promise(4);
        C.says("Place i of a ROW, told by asked(): 1.");
        LimeDeaths x = Check.lay(new LimeDeaths(), 5, MIN, -1, 0, MAX);
        C.tells("at the first", x, () -> x.at(5, 0), MIN);
        C.tells("at a middle", x, () -> x.at(5, 1), -1);
        C.tells("at a middle", x, () -> x.at(5, 2), 0);
        C.tells("at the last", x, () -> x.at(5, 3), MAX);
        x.row(0, 40);
        x.lay(0, 39, 77);
        C.tells("at(0, 39)", x, () -> x.at(0, 39), 77);
        C.says("BAD;");
        for (int r : NO_ROW) {
            C.bad("at(" + r + ", 0)", x, () -> x.at(r, 0));
            C.bad("at(" + r + ", -1), BAD ahead of NOTHING", x, () -> x.at(r, -1));
        }
        C.says("NOTHING;");
        C.finds("at(3, 0)", x, () -> x.at(3, 0), NOTHING);
        C.finds("at(3, -1), NOTHING ahead of BEYOND", x, () -> x.at(3, -1), NOTHING);
        C.says("BEYOND.");
        C.finds("at(5, 4)", x, () -> x.at(5, 4), BEYOND);
        C.finds("at(0, 40)", x, () -> x.at(0, 40), BEYOND);
        for (int i : Check.NO_INDEX) {
            C.finds("at(5, " + i + ")", x, () -> x.at(5, i), BEYOND);
        }
        x.row(4, 0);
        C.finds("at an empty one", x, () -> x.at(4, 0), BEYOND);
        x.row(5, 2);
        C.finds("at what was there ahead of row()", x, () -> x.at(5, 2), BEYOND);
    }

    private static void tear() {
        C.promise(5);
        C.says("A ROW is missing: 1.");
        LimeDeaths x = new LimeDeaths();
        for (int r = 0; r < 6; r++) {
            Check.lay(x, r, 7, 8);
        }
        for (int r = 0; r < 6; r++) {
            int row = r;
            C.due("tear(" + r + ")", x.tear(r), 1);
            C.due("rows left", x.count(9), 5 - r);
            C.finds("at torn", x, () -> x.at(row, 0), NOTHING);
        }
        x.row(3, 2);
        C.row("row behind tear", x, 3, 0, 0);
        x.row(0, 0);
        C.due("tear an empty one", x.tear(0), 1);
        C.says("BAD;");
        for (int r : NO_ROW) {
            C.bad("tear(" + r + ")", x, () -> x.tear(r));
        }
        C.says("NOTHING.");
        C.finds("tear again", x, () -> x.tear(0), NOTHING);
        LimeDeaths none = new LimeDeaths();
        C.finds("tear at first", none, () -> none.tear(5), NOTHING);
    }

    private static void copy() {
        C.promise(6);
        C.says("n places of a ROW, from one on, come to those of another one (perhaps itself) from one on,");
        LimeDeaths x = Check.lay(new LimeDeaths(), 0, 1, 2, 3, 4, 5);
        Check.lay(x, 1, 9, 9, 9);
        C.due("copy one", x.copy(0, 4, 1, 0, 1), 1);
        C.row("copy one", x, 1, 5, 9, 9);
        C.due("copy to the end", x.copy(0, 1, 1, 1, 2), 1);
        C.row("copy to the end", x, 1, 5, 2, 3);
        C.row("what is copied stays", x, 0, 1, 2, 3, 4, 5);
        C.due("copy none", x.copy(0, 0, 1, 0, 0), 1);
        C.due("copy none at both ends", x.copy(0, 5, 1, 3, 0), 1);
        C.row("none came", x, 1, 5, 2, 3);
        x.row(4, 0);
        C.due("copy none of an empty one", x.copy(4, 0, 4, 0, 0), 1);
        x.row(2, 40);
        x.row(3, 40);
        for (int i = 0; i < 40; i++) {
            x.lay(2, i, 100 + i);
        }
        C.due("copy forty", x.copy(2, 0, 3, 0, 40), 1);
        C.due("the first came", Check.told(x, x.at(3, 0)), 100);
        C.due("the last came", Check.told(x, x.at(3, 39)), 139);
        C.says("as if taken ahead: 1.");
        C.due("copy onward in itself", x.copy(0, 0, 0, 1, 4), 1);
        C.row("copy onward in itself", x, 0, 1, 1, 2, 3, 4);
        C.due("copy back in itself", x.copy(0, 1, 0, 0, 4), 1);
        C.row("copy back in itself", x, 0, 1, 2, 3, 4, 4);
        C.due("copy onto itself", x.copy(0, 0, 0, 0, 5), 1);
        C.row("copy onto itself", x, 0, 1, 2, 3, 4, 4);
        C.says("BAD;");
        for (int r : NO_ROW) {
            C.bad("copy of " + r, x, () -> x.copy(r, 0, 0, 0, 1));
            C.bad("copy to " + r, x, () -> x.copy(0, 0, r, 0, 1));
            C.bad("copy of " + r + ", BAD ahead of SIZE", x, () -> x.copy(r, 0, 0, 0, -1));
            C.bad("copy to " + r + ", BAD ahead of NOTHING", x, () -> x.copy(5, 0, r, 0, 1));
        }
        C.says("SIZE: n below 0;");
        C.finds("copy -1", x, () -> x.copy(0, 1, 0, 1, -1), SIZE);
        C.finds("copy min", x, () -> x.copy(0, 0, 0, 0, MIN), SIZE);
        C.finds("copy -1 of missing, SIZE ahead of NOTHING", x, () -> x.copy(5, 0, 5, 0, -1), SIZE);
        C.finds("copy -1 from 9, SIZE ahead of BEYOND", x, () -> x.copy(0, 9, 0, -9, -1), SIZE);
        copyMissing(x);
    }

    private static void copyMissing(LimeDeaths x) {
        C.says("NOTHING: either;");
        C.finds("copy of missing", x, () -> x.copy(5, 0, 0, 0, 0), NOTHING);
        C.finds("copy to missing", x, () -> x.copy(0, 0, 5, 0, 0), NOTHING);
        C.finds("copy of missing to missing", x, () -> x.copy(5, 0, 5, 0, 0), NOTHING);
        C.finds("copy of missing from 9, NOTHING ahead of BEYOND", x, () -> x.copy(5, 9, 0, 9, 1), NOTHING);
        C.finds("copy to missing from 9, NOTHING ahead of BEYOND", x, () -> x.copy(0, 9, 5, 9, 1), NOTHING);
        C.says("BEYOND: not so many there.");
        C.finds("one more than there", x, () -> x.copy(0, 0, 2, 0, 6), BEYOND);
        C.finds("one more than there behind 4", x, () -> x.copy(0, 4, 2, 0, 2), BEYOND);
        C.finds("one more than room", x, () -> x.copy(2, 0, 0, 0, 6), BEYOND);
        C.finds("one more than room behind 4", x, () -> x.copy(2, 0, 0, 4, 2), BEYOND);
        C.finds("none beyond the end", x, () -> x.copy(0, 6, 2, 0, 0), BEYOND);
        C.finds("none to beyond the end", x, () -> x.copy(2, 0, 0, 6, 0), BEYOND);
        for (int i : Check.NO_INDEX) {
            C.finds("from " + i, x, () -> x.copy(0, i, 2, 0, 1), BEYOND);
            C.finds("none from " + i, x, () -> x.copy(0, i, 2, 0, 0), BEYOND);
            C.finds("to " + i, x, () -> x.copy(0, 0, 2, i, 1), BEYOND);
            C.finds("none to " + i, x, () -> x.copy(0, 0, 2, i, 0), BEYOND);
        }
        C.finds("max from 1", x, () -> x.copy(0, 1, 2, 1, MAX), BEYOND);
        C.finds("max from max", x, () -> x.copy(0, MAX, 2, MAX, MAX), BEYOND);
        C.finds("one of an empty one", x, () -> x.copy(4, 0, 0, 0, 1), BEYOND);
        C.finds("one to an empty one", x, () -> x.copy(0, 0, 4, 0, 1), BEYOND);
    }

    private static void mean() {
        C.promise(7);
        C.says("The mean of a ROW's ints, cut, told by asked(): 1.");
        int[][] rows = {{7}, {1, 2, 5}, {1, 2}, {-1, -2}, {-1, 0}, {-7, -7, -9}, {MAX, MAX, MAX}, {MIN, MIN},
            {MAX, MIN}, {MAX, 0}, {0, 0, 0}};
        int[] means = {7, 2, 1, -1, 0, -7, MAX, MIN, 0, 1073741823, 0};
        LimeDeaths x = new LimeDeaths();
        for (int k = 0; k < rows.length; k++) {
            Check.lay(x, 5, rows[k]);
            C.tells("mean of row " + k, x, () -> x.mean(5), means[k]);
        }
        x.row(0, 40);
        x.lay(0, 39, 119);
        C.tells("mean of forty", x, () -> x.mean(0), 2);
        for (int i = 0; i < 40; i++) {
            x.lay(0, i, MIN);
        }
        C.tells("mean of forty least ones", x, () -> x.mean(0), MIN);
        C.says("BAD;");
        for (int r : NO_ROW) {
            C.bad("mean(" + r + ")", x, () -> x.mean(r));
        }
        C.says("NOTHING;");
        C.finds("mean of missing", x, () -> x.mean(2), NOTHING);
        C.says("NOUGHT.");
        x.row(1, 0);
        C.finds("mean of none", x, () -> x.mean(1), NOUGHT);
    }

    private static void text() {
        C.promise(8);
        C.says("A TEXT is there with n blanks: n.");
        LimeDeaths x = new LimeDeaths();
        for (int t = 0; t < 4; t++) {
            C.due("text(" + t + ", 60)", x.text(t, 60), 60);
            C.due("texts there", x.count(10), t + 1);
        }
        for (int n : new int[] {0, 1, 59, 60}) {
            C.due("text(3, " + n + ")", x.text(3, n), n);
            C.due("its fault is its size", x.fault(3), n);
            for (int i = 0; i < n; i++) {
                C.due("blank " + i, x.put(3, i, 'x'), 1032);
            }
            C.due("no more", x.put(3, n, 'x'), LimeDeaths.FINDING);
        }
        C.due("text anew", x.text(3, 60), 60);
        C.due("a blank again", x.put(3, 59, 1), 1032);
        C.due("still four", x.count(10), 4);
        C.says("BAD: also n above 60;");
        for (int t : NO_TEXT) {
            C.bad("text(" + t + ", 1)", x, () -> x.text(t, 1));
            C.bad("text(" + t + ", -1), BAD ahead of SIZE", x, () -> x.text(t, -1));
        }
        C.bad("text(0, 61)", x, () -> x.text(0, 61));
        C.bad("text(3, max)", x, () -> x.text(3, MAX));
        C.says("SIZE: below 0.");
        C.finds("text(0, -1)", x, () -> x.text(0, -1), SIZE);
        C.finds("text(3, min)", x, () -> x.text(3, MIN), SIZE);
        LimeDeaths none = new LimeDeaths();
        C.finds("text(0, -1) of a missing one", none, () -> none.text(0, -1), SIZE);
        C.due("it is missing still", none.count(10), 0);
    }

    private static void put() {
        C.promise(9);
        C.says("Byte i of a TEXT is v,");
        LimeDeaths x = new LimeDeaths();
        for (int t = 0; t < 4; t++) {
            x.text(t, 60);
        }
        C.due("put the first", x.put(3, 0, 65), 1032);
        C.due("put the last", x.put(3, 59, 66), 1032);
        C.due("put the first again", x.put(3, 0, 67), 1065);
        C.due("put the last again", x.put(3, 59, 68), 1066);
        C.due("other texts stay", x.put(2, 0, 69), 1032);
        C.due("other bytes stay", x.put(3, 1, 69), 1032);
        C.says("cut to a byte: what it was, and 1000 more.");
        int[] puts = {127, 128, 255, 256, 257, -1, -128, -129, MAX, MIN, 65 + 1024, 32};
        int[] bytes = {127, -128, -1, 0, 1, -1, -128, 127, -1, 0, 65, 32};
        x.put(0, 5, 0);
        int was = 0;
        for (int k = 0; k < puts.length; k++) {
            C.due("put " + puts[k], x.put(0, 5, puts[k]), 1000 + was);
            was = bytes[k];
        }
        C.says("BAD;");
        for (int t : NO_TEXT) {
            C.bad("put(" + t + ", 0, 7)", x, () -> x.put(t, 0, 7));
            C.bad("put(" + t + ", -1, 7), BAD ahead of NOTHING", x, () -> x.put(t, -1, 7));
        }
        C.says("NOTHING;");
        LimeDeaths none = new LimeDeaths();
        C.finds("put(3, 0, 7) of missing", none, () -> none.put(3, 0, 7), NOTHING);
        C.finds("put(0, -1, 7), NOTHING ahead of BEYOND", none, () -> none.put(0, -1, 7), NOTHING);
        C.says("BEYOND.");
        C.finds("put(0, 60, 7)", x, () -> x.put(0, 60, 7), BEYOND);
        for (int i : Check.NO_INDEX) {
            C.finds("put(0, " + i + ", 7)", x, () -> x.put(0, i, 7), BEYOND);
        }
        x.text(1, 0);
        C.finds("put in an empty one", x, () -> x.put(1, 0, 7), BEYOND);
        x.text(1, 9);
        C.finds("put beyond nine", x, () -> x.put(1, 9, 7), BEYOND);
    }
}
