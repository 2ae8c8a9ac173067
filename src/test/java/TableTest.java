/** Promises 2 row and 3 drop. */
public final class TableTest {
    private static final int LEAST = Integer.MIN_VALUE;
    private static final int MOST = Integer.MAX_VALUE;
    private static final String ENDS = "count where %1$s = - 2147483647 - 1 in 1; count where %1$s = 2147483647 in 1;";
    private static final String COLUMNS =
        "bins a from 0 to 4 in 1; bins b from 10 to 14 in 1; bins f from 20 to 24 in 1;";
    private static final Check CHECK = new Check();

    public static void main(String[] args) {
        rowsAreNumbered();
        sixInts();
        sixtyAtMost();
        roomAgain();
        dropAnswersHowMany();
        dropOfNoRow();
        rowsAboveMove();
        CHECK.end();
    }

    private static void rowsAreNumbered() {
        CHECK.says("rows are numbered from 0");
        PrivateQueries x = new PrivateQueries(1, 2);
        CHECK.due("the first row", 0, x.row(1, 2, 3, 4, 5, 6));
        CHECK.due("the same again", 1, x.row(1, 2, 3, 4, 5, 6));
        CHECK.due("count(0)", 2, x.count(0));
    }

    private static void sixInts() {
        CHECK.says("have six ints, the COLUMNS a .. f");
        PrivateQueries x = new PrivateQueries(1, 2);
        x.row(LEAST, MOST, LEAST, MOST, LEAST, MOST);
        for (int column = 0; column < 6; column++) {
            String name = "" + (char) ('a' + column);
            CHECK.due("the ends of int in " + name, column % 2 == 0 ? "1 0" : "0 1", Check.tell(x, String.format(ENDS, name)));
        }
        PrivateQueries y = new PrivateQueries(1, 2);
        y.row(1, 2, 3, 4, 5, 6);
        CHECK.due("each its own", "1", Check.tell(y, "count where a=1 and b=2 and c=3 and d=4 and e=5 and f=6 in 1;"));
    }

    private static void sixtyAtMost() {
        CHECK.says("ROWS (60 at most)");
        PrivateQueries x = new PrivateQueries(1, 2);
        Check.rows(x, 59);
        CHECK.due("row 59", 59, x.row(59, 0, 0, 0, 0, 7));
        CHECK.due("row 60", PrivateQueries.ROOM, x.row(60, 0, 0, 0, 0, 7));
        CHECK.due("row 60 again", PrivateQueries.ROOM, x.row(0, 0, 0, 0, 0, 7));
        CHECK.due("count(0)", 60, x.count(0));
        CHECK.due("only row 59 came", "1", Check.tell(x, "count where f = 7 in 9;"));
        CHECK.due("and the others are there", "1 1 1 1", Check.tell(x, "bins a from 0 to 1 in 9; bins a from 58 to 59 in 9;"));
    }

    private static void roomAgain() {
        CHECK.says("A row is taken away");
        PrivateQueries x = new PrivateQueries(1, 2);
        Check.rows(x, 60);
        x.drop(0);
        CHECK.due("a row behind the 59 that are left", 59, x.row(0, 0, 0, 0, 0, 0));
        CHECK.due("full again", PrivateQueries.ROOM, x.row(0, 0, 0, 0, 0, 0));
        for (int left = 59; left >= 0; left--) {
            CHECK.due("drop(" + left + ")", left, x.drop(left));
        }
        CHECK.due("the first again", 0, x.row(0, 0, 0, 0, 0, 0));
    }

    private static void dropAnswersHowMany() {
        CHECK.says("A row is taken away: how many there are.");
        PrivateQueries x = new PrivateQueries(1, 2);
        Check.rows(x, 3);
        CHECK.due("the last one", 2, x.drop(2));
        CHECK.due("the first one", 1, x.drop(0));
        CHECK.due("the only one", 0, x.drop(0));
        CHECK.due("none is left", "0", Check.tell(x, "count in 9;"));
    }

    private static void dropOfNoRow() {
        CHECK.says("how many there are. UNKNOWN.");
        PrivateQueries x = new PrivateQueries(1, 2);
        CHECK.due("drop(0) of none", PrivateQueries.UNKNOWN, x.drop(0));
        Check.rows(x, 60);
        CHECK.due("drop(-1)", PrivateQueries.UNKNOWN, x.drop(-1));
        CHECK.due("drop(least)", PrivateQueries.UNKNOWN, x.drop(LEAST));
        CHECK.due("drop(60)", PrivateQueries.UNKNOWN, x.drop(60));
        CHECK.due("drop(most)", PrivateQueries.UNKNOWN, x.drop(MOST));
        CHECK.due("drop(59)", 59, x.drop(59));
        CHECK.due("drop(59) again", PrivateQueries.UNKNOWN, x.drop(59));
        CHECK.due("drop(58)", 58, x.drop(58));
    }

    private static void rowsAboveMove() {
        CHECK.says("when one is taken away those above it get numbers one less");
        PrivateQueries x = new PrivateQueries(1, 2);
        for (int i = 0; i < 5; i++) {
            x.row(i, 10 + i, 0, 0, 0, 20 + i);
        }
        CHECK.due("drop(1)", 4, x.drop(1));
        CHECK.due("drop(1), which was 2", 3, x.drop(1));
        CHECK.due("0, 3 and 4 are left", "1 0 0 1 1 1 0 0 1 1 1 0 0 1 1", Check.tell(x, COLUMNS));
        CHECK.due("drop(2), which was 4", 2, x.drop(2));
        CHECK.due("drop(0)", 1, x.drop(0));
        CHECK.due("3 is left", "0 0 0 1 0 0 0 0 1 0 0 0 0 1 0", Check.tell(x, COLUMNS));
    }
}
