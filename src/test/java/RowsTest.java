/** Promises 1 to 9: a new object, rows, texts. */
public final class RowsTest {
    private static final Check C = new Check();
    private static final int NOTHING = 1, BEYOND = 2, NOUGHT = 4, SIZE = 5;

    public static void main(String[] args) {
        newObject();
        rows();
        places();
        copies();
        means();
        texts();
        C.end();
    }

    private static void newObject() {
        LimeDeaths x = new LimeDeaths();
        for (int what = 0; what <= 11; what++) {
            C.due("new count(" + what + ")", x.count(what), 0);
        }
        C.due("new asked()", x.asked(), 0);
        C.due("new upper()", x.upper(), 0);
        C.due("new lower()", x.lower(), 1);
        C.due("new finding()", x.finding(), 0);
        for (int f = 1; f <= 5; f++) {
            C.due("new findings(" + f + ")", x.findings(f), 0);
        }
        for (int r = 0; r < 6; r++) {
            int row = r;
            C.finds("new at(" + r + ", 0)", x, () -> x.at(row, 0), NOTHING);
        }
        for (int t = 0; t < 4; t++) {
            int text = t;
            C.finds("new fault(" + t + ")", x, () -> x.fault(text), NOTHING);
        }
    }

    private static void rows() {
        LimeDeaths x = new LimeDeaths();
        C.due("row(0, 0)", x.row(0, 0), 0);
        C.due("row(5, 40)", x.row(5, 40), 40);
        C.due("count(9)", x.count(9), 2);
        C.refuses("row(6, 1)", x, () -> x.row(6, 1), LimeDeaths.BAD);
        C.refuses("row(-1, -1)", x, () -> x.row(-1, -1), LimeDeaths.BAD);
        C.refuses("row(0, 41)", x, () -> x.row(0, 41), LimeDeaths.BAD);
        C.finds("row(0, -1)", x, () -> x.row(0, -1), SIZE);
        C.finds("row(0, min)", x, () -> x.row(0, Integer.MIN_VALUE), SIZE);
        x.lay(5, 7, 3);
        x.row(5, 8);
        C.row("row anew", x, 5, 0, 0, 0, 0, 0, 0, 0, 0);
        C.due("tear(5)", x.tear(5), 1);
        C.due("count(9) torn", x.count(9), 1);
        C.finds("tear(5) again", x, () -> x.tear(5), NOTHING);
        C.refuses("tear(6)", x, () -> x.tear(6), LimeDeaths.BAD);
        C.refuses("tear(-1)", x, () -> x.tear(-1), LimeDeaths.BAD);
    }

    private static void places() {
        LimeDeaths x = new LimeDeaths();
        x.row(2, 3);
        C.due("lay", x.lay(2, 2, Integer.MIN_VALUE), 1);
        C.due("lay was", x.asked(), 0);
        C.due("lay", x.lay(2, 2, 7), 1);
        C.due("lay was", x.asked(), Integer.MIN_VALUE);
        C.due("at", x.at(2, 2), 1);
        C.due("at told", x.asked(), 7);
        C.finds("lay(2, 3, 1)", x, () -> x.lay(2, 3, 1), BEYOND);
        C.finds("lay(2, -1, 1)", x, () -> x.lay(2, -1, 1), BEYOND);
        C.finds("at(2, 3)", x, () -> x.at(2, 3), BEYOND);
        C.finds("at(2, -1)", x, () -> x.at(2, -1), BEYOND);
        C.finds("at(2, max)", x, () -> x.at(2, Integer.MAX_VALUE), BEYOND);
        C.finds("lay(3, -1, 1)", x, () -> x.lay(3, -1, 1), NOTHING);
        C.finds("at(3, -1)", x, () -> x.at(3, -1), NOTHING);
        C.refuses("lay(6, 0, 0)", x, () -> x.lay(6, 0, 0), LimeDeaths.BAD);
        C.refuses("at(-1, 0)", x, () -> x.at(-1, 0), LimeDeaths.BAD);
    }

    private static void copies() {
        LimeDeaths x = new LimeDeaths();
        Check.lay(x, 0, 1, 2, 3, 4, 5);
        C.due("copy forward", x.copy(0, 0, 0, 1, 4), 1);
        C.row("copy forward", x, 0, 1, 1, 2, 3, 4);
        Check.lay(x, 0, 1, 2, 3, 4, 5);
        C.due("copy backward", x.copy(0, 1, 0, 0, 4), 1);
        C.row("copy backward", x, 0, 2, 3, 4, 5, 5);
        Check.lay(x, 1, 9, 9);
        C.due("copy", x.copy(0, 3, 1, 0, 1), 1);
        C.row("copy", x, 1, 5, 9);
        C.due("copy none at the end", x.copy(0, 5, 1, 2, 0), 1);
        C.finds("copy too many from", x, () -> x.copy(1, 1, 0, 0, 2), BEYOND);
        C.finds("copy too many to", x, () -> x.copy(0, 0, 1, 1, 2), BEYOND);
        C.finds("copy from -1", x, () -> x.copy(0, -1, 1, 0, 1), BEYOND);
        C.finds("copy to -1", x, () -> x.copy(0, 0, 1, -1, 1), BEYOND);
        C.finds("copy none beyond", x, () -> x.copy(0, 6, 1, 0, 0), BEYOND);
        C.finds("copy max", x, () -> x.copy(0, Integer.MAX_VALUE, 1, 0, Integer.MAX_VALUE), BEYOND);
        C.finds("copy one and max", x, () -> x.copy(0, 1, 1, 0, Integer.MAX_VALUE), BEYOND);
        C.finds("copy from missing", x, () -> x.copy(2, 9, 0, 0, 1), NOTHING);
        C.finds("copy to missing", x, () -> x.copy(0, 9, 2, 0, 1), NOTHING);
        C.finds("copy -1", x, () -> x.copy(2, 0, 2, 0, -1), SIZE);
        C.refuses("copy of 6", x, () -> x.copy(6, 0, 0, 0, -1), LimeDeaths.BAD);
        C.refuses("copy to 6", x, () -> x.copy(0, 0, 6, 0, 1), LimeDeaths.BAD);
    }

    private static void means() {
        LimeDeaths x = new LimeDeaths();
        Check.lay(x, 0, 1, 2, 5);
        C.due("mean", x.mean(0), 1);
        C.due("mean told", x.asked(), 2);
        Check.lay(x, 0, -1, -2, -2);
        x.mean(0);
        C.due("mean cut", x.asked(), -1);
        Check.lay(x, 0, Integer.MAX_VALUE, Integer.MAX_VALUE, Integer.MAX_VALUE);
        x.mean(0);
        C.due("mean of large ones", x.asked(), Integer.MAX_VALUE);
        x.row(0, 40);
        x.lay(0, 39, 80);
        x.mean(0);
        C.due("mean of forty", x.asked(), 2);
        x.row(1, 0);
        C.finds("mean of none", x, () -> x.mean(1), NOUGHT);
        C.finds("mean of missing", x, () -> x.mean(2), NOTHING);
        C.refuses("mean(6)", x, () -> x.mean(6), LimeDeaths.BAD);
    }

    private static void texts() {
        LimeDeaths x = new LimeDeaths();
        C.due("text(0, 60)", x.text(0, 60), 60);
        C.due("text(3, 0)", x.text(3, 0), 0);
        C.due("count(10)", x.count(10), 2);
        C.due("put blank", x.put(0, 59, 255), 1032);
        C.due("put cut", x.put(0, 59, 128), 999);
        C.due("put cut", x.put(0, 59, 256 + 65), 872);
        C.due("put", x.put(0, 59, 0), 1065);
        x.text(0, 60);
        C.due("text anew", x.put(0, 59, 1), 1032);
        C.refuses("text(4, 1)", x, () -> x.text(4, 1), LimeDeaths.BAD);
        C.refuses("text(-1, -1)", x, () -> x.text(-1, -1), LimeDeaths.BAD);
        C.refuses("text(0, 61)", x, () -> x.text(0, 61), LimeDeaths.BAD);
        C.finds("text(0, -1)", x, () -> x.text(0, -1), SIZE);
        C.finds("put(0, 60, 1)", x, () -> x.put(0, 60, 1), BEYOND);
        C.finds("put(0, -1, 1)", x, () -> x.put(0, -1, 1), BEYOND);
        C.finds("put(3, 0, 1)", x, () -> x.put(3, 0, 1), BEYOND);
        C.finds("put(1, 0, 1)", x, () -> x.put(1, 0, 1), NOTHING);
        C.refuses("put(4, 0, 1)", x, () -> x.put(4, 0, 1), LimeDeaths.BAD);
    }
}
