/** Promises 1 (rows), 2 row, 3 drop and 5 count. */
public final class TableTest {
    private static final int LEAST = Integer.MIN_VALUE;
    private static final int MOST = Integer.MAX_VALUE;
    private static final Check CHECK = new Check();

    public static void main(String[] args) {
        newObjectHasNothing();
        rowsAreNumberedFromZero();
        sixtyRowsAtMost();
        dropMovesTheRowsAbove();
        countsOfEachSort();
        CHECK.end();
    }

    private static void newObjectHasNothing() {
        PrivateQueries x = new PrivateQueries(3, 7);
        for (int what = 0; what <= 5; what++) {
            CHECK.due("count(" + what + ") of a new object", 0, x.count(what));
        }
        for (int whose = 0; whose <= 4; whose++) {
            CHECK.due("spent of a new object", 0, x.ledger(whose, 0));
            CHECK.due("left of a new object", 0, x.ledger(whose, 1));
        }
        CHECK.due("told(0)", PrivateQueries.NONE, x.told(0));
        CHECK.due("out(0)", PrivateQueries.NONE, x.out(0));
        CHECK.due("question(0, 0)", PrivateQueries.UNKNOWN, x.question(0, 0));
        CHECK.due("wants(0)", PrivateQueries.STATE, x.wants(0));
        CHECK.due("run(0)", PrivateQueries.STATE, x.run(0));
        CHECK.due("print()", PrivateQueries.STATE, x.print());
        CHECK.due("drop(0)", PrivateQueries.UNKNOWN, x.drop(0));
        CHECK.due("noise(0, 0)", PrivateQueries.SHORT, x.noise(0, 0));
        CHECK.due("read() of no text", -1000, x.read());
    }

    private static void rowsAreNumberedFromZero() {
        PrivateQueries x = new PrivateQueries(1, 2);
        CHECK.due("first row", 0, x.row(LEAST, MOST, 0, -1, 1, 2));
        CHECK.due("second row", 1, x.row(LEAST, MOST, 0, -1, 1, 2));
        CHECK.due("count(0)", 2, x.count(0));
    }

    private static void sixtyRowsAtMost() {
        PrivateQueries x = new PrivateQueries(1, 2);
        for (int i = 0; i < 60; i++) {
            CHECK.due("row " + i, i, x.row(i, 0, 0, 0, 0, i));
        }
        CHECK.due("row 60", PrivateQueries.ROOM, x.row(0, 0, 0, 0, 0, 0));
        CHECK.due("count(0)", 60, x.count(0));
        CHECK.due("drop(60)", PrivateQueries.UNKNOWN, x.drop(60));
        CHECK.due("drop(59)", 59, x.drop(59));
        CHECK.due("drop(59) again", PrivateQueries.UNKNOWN, x.drop(59));
        CHECK.due("drop(0)", 58, x.drop(0));
        CHECK.due("a row again", 58, x.row(0, 0, 0, 0, 0, 0));
    }

    /** Which rows are there is told by bins with cells of no noise. */
    private static void dropMovesTheRowsAbove() {
        PrivateQueries x = new PrivateQueries(1, 2);
        x.budget(0, 1000);
        x.budget(4, 1000);
        for (int i = 0; i < 5; i++) {
            x.row(i, 10 + i, 0, 0, 0, 20 + i);
        }
        CHECK.due("drop(-1)", PrivateQueries.UNKNOWN, x.drop(-1));
        CHECK.due("drop(least)", PrivateQueries.UNKNOWN, x.drop(LEAST));
        CHECK.due("drop(most)", PrivateQueries.UNKNOWN, x.drop(MOST));
        CHECK.due("drop(5)", PrivateQueries.UNKNOWN, x.drop(5));
        CHECK.due("drop(1)", 4, x.drop(1));
        CHECK.due("drop(1)", 3, x.drop(1));
        CHECK.due("columns a, b, f of rows 0, 3 and 4", "1001110011" + "10011",
            bins(x, "bins a from 0 to 4 in 1; bins b from 10 to 14 in 1; bins f from 20 to 24 in 1;"));
        CHECK.due("drop(2)", 2, x.drop(2));
        CHECK.due("drop(0)", 1, x.drop(0));
        CHECK.due("row 3 is left", "0001000010" + "00010",
            bins(x, "bins a from 0 to 4 in 1; bins b from 10 to 14 in 1; bins f from 20 to 24 in 1;"));
        CHECK.due("drop(0)", 0, x.drop(0));
        CHECK.due("none is left", "00000", bins(x, "bins a from 0 to 4 in 1;"));
    }

    private static String bins(PrivateQueries x, String text) {
        Check.read(x, text);
        int cells = x.wants(2);
        for (int i = 0; i < cells; i++) {
            x.draws(0, PrivateQueries.NONE);
        }
        int numbers = x.run(0);
        StringBuilder all = new StringBuilder();
        for (int i = 0; i < numbers; i++) {
            all.append(x.told(i));
        }
        return all.toString();
    }

    private static void countsOfEachSort() {
        PrivateQueries x = new PrivateQueries(1, 2);
        x.budget(2, 9);
        x.budget(4, 9);
        x.row(1, 1, 1, 1, 1, 1);
        Check.draw(x, 0, 0, 0, 0, 0);
        CHECK.due("read()", 4, Check.read(x, "let g=a=1;let h=g;count in 0;bins a from 1 to 2 where h in 0;"));
        Check.type(x, "count");
        CHECK.due("rows", 1, x.count(0));
        CHECK.due("cells", 5, x.count(1));
        CHECK.due("signs", 5, x.count(2));
        CHECK.due("questions", 2, x.count(3));
        CHECK.due("lets", 2, x.count(4));
        CHECK.due("numbers before a run", 0, x.count(5));
        CHECK.due("run(2)", 3, x.run(2));
        CHECK.due("numbers told", 3, x.count(5));
        CHECK.due("cells left", 2, x.count(1));
        CHECK.due("count(-1)", PrivateQueries.OUTSIDE, x.count(-1));
        CHECK.due("count(6)", PrivateQueries.OUTSIDE, x.count(6));
        CHECK.due("count(least)", PrivateQueries.OUTSIDE, x.count(LEAST));
    }
}
