import java.util.Arrays;

/** What is asked: which rows a condition holds for, and the numbers of questions without noise. */
public final class ConditionTest {
    private static final int LEAST = Integer.MIN_VALUE;
    private static final int MOST = Integer.MAX_VALUE;
    private static final Check CHECK = new Check();

    public static void main(String[] args) {
        comparisons();
        comparisonsWithSign();
        orsOfAnds();
        nots();
        sumsOfTerms();
        sumsWrap();
        ownColumns();
        letsOfLets();
        deepConditions();
        longConditions();
        counts();
        numbersBelowZero();
        numbersAboveTo();
        dividedAndCut();
        sumsOverTheRows();
        binsOfEachNumber();
        binsAtTheEnds();
        CHECK.end();
    }

    private static void holds(int rows, String condition) {
        PrivateQueries x = new PrivateQueries(1, 2);
        for (int i = 0; i < 8; i++) {
            x.row(i, 10 - i, i % 3, i * i, -i, 7);
        }
        CHECK.due("rows where " + condition, "" + rows, Check.tell(x, "count where " + condition + " in 30;"));
    }

    private static void comparisons() {
        CHECK.says("one of < > = <= >= <>");
        holds(3, "a < 3");
        holds(4, "a <= 3");
        holds(4, "a > 3");
        holds(5, "a >= 3");
        holds(1, "a = 3");
        holds(7, "a <> 3");
        holds(8, "a = - e");
        holds(8, "a + b = 10");
        holds(8, "d = a * a");
    }

    private static void comparisonsWithSign() {
        CHECK.says("comparisons are of ints with sign");
        holds(8, "- 1 < 0");
        holds(0, "- 1 > 0");
        holds(1, "e >= 0");
        holds(7, "e < 0");
        PrivateQueries x = new PrivateQueries(1, 2);
        x.row(LEAST, MOST, 0, -1, 1, LEAST);
        String[] hold = {"a < b", "a <= b", "a <> b", "b > a", "b >= a", "a < c", "a < d", "d < c", "c < b", "a = f", "a <= f", "a >= f"};
        for (String one : hold) {
            CHECK.due(one, "1", Check.tell(x, "count where " + one + " in 1;"));
            CHECK.due("not " + one, "0", Check.tell(x, "count where not " + one + " in 1;"));
        }
    }

    private static void orsOfAnds() {
        CHECK.says("COND: one or more ANDs with or between them.");
        holds(1, "c = 0 and a < 1");
        holds(4, "c = 0 or a = 1");
        holds(4, "a = 1 or c = 0 and f = 7");
        holds(4, "f = 7 and c = 0 or a = 1 and f = 7");
        holds(3, "[a = 1 or c = 0] and a <> 0");
        holds(3, "a = 1 or a = 2 and a = 3 or a = 4 or a = 5");
    }

    private static void nots() {
        CHECK.says("NOT: not NOT; [ COND ]");
        holds(7, "not a = 1");
        holds(6, "not a = 1 and not a = 2");
        holds(8, "not a = 1 or not a = 2");
        holds(1, "not not a = 1");
        holds(7, "not [a = 1 and f = 7]");
        holds(0, "not [a = 1 or f = 7]");
        holds(5, "not [not a = 1 and not a = 2 and a <> 3] or a > 5");
    }

    private static void sumsOfTerms() {
        CHECK.says("SUM: one or more TERMs with + or - between them.");
        holds(8, "2 + 3 * 4 = 14");
        holds(8, "2 * 3 + 4 = 10");
        holds(8, "10 - 3 - 2 = 5");
        holds(8, "10 - (3 - 2) = 9");
        holds(8, "10 - 3 + 2 = 9");
        holds(8, "10 - 2 * 3 - 1 = 3");
        holds(8, "(2 + 3) * 4 = 20");
        holds(8, "- 2 * 3 = - 6");
        holds(8, "2 * - 3 = - 6");
        holds(8, "2 - - 3 = 5");
        holds(8, "- - 3 = 3");
        holds(8, "- (2 + 3) = - 5");
        holds(8, "- 2 + 3 = 1");
        holds(8, "1 + 2 * 3 * 4 - 5 * 6 + 7 = 2");
    }

    private static void sumsWrap() {
        CHECK.says("SUMS wrap in 32 bits");
        PrivateQueries x = new PrivateQueries(1, 2);
        x.row(MOST, LEAST, 65536, 46341, -1, 0);
        String[] hold = {"a + 1 = b", "a + 1 < a", "a + 0 > b", "b - 1 = a", "b - 1 > 0", "a + a = - 2", "b + b = 0",
            "c * c = 0", "c * 32767 > 0", "c * 32768 = b", "d * d < 0", "46340 * 46340 > 0", "a * a = 1", "b * e = b",
            "- b = b", "- b < 0", "- a = b + 1", "- 2147483647 - 1 = b", "2147483647 + 1 < 0", "2147483647 + 1 - 1 = a"};
        for (String one : hold) {
            CHECK.due(one, "1", Check.tell(x, "count where " + one + " in 1;"));
        }
    }

    private static void ownColumns() {
        CHECK.says("all conditions of a row are worked out by its own columns");
        PrivateQueries x = new PrivateQueries(1, 2);
        x.row(1, 0, 0, 0, 0, 0);
        x.row(0, 1, 0, 0, 0, 0);
        x.row(1, 1, 0, 0, 0, 0);
        CHECK.due("with lets", "2 2 1", Check.tell(x,
            "let g = a = 1; let h = b = 1; count where g in 9; count where h in 9; count where g and h in 9;"));
    }

    private static void letsOfLets() {
        CHECK.says("let NAME = COND");
        PrivateQueries x = new PrivateQueries(1, 2);
        Check.rows(x, 8);
        CHECK.due("lets", "3 1 4", Check.tell(x, "let z = a < 3; let g = z and a > 1; count where z in 9; count where g in 9;"
            + "let h = g or a > 4; count where h in 9;"));
        StringBuilder chain = new StringBuilder("let g = a < 3;");
        for (char name = 'h'; name < 'q'; name++) {
            char before = (char) (name - 1);
            chain.append("let ").append(name).append(" = ").append((before + " and ").repeat(7)).append(before).append(";");
        }
        CHECK.due("each names the one before eight times", "3", Check.tell(x, chain + "count where p in 9;"));
    }

    /** Nested as deep as may be, with operands that wait on every level. */
    private static void deepConditions() {
        CHECK.says("that would be within 20 of these others");
        PrivateQueries x = new PrivateQueries(1, 2);
        x.row(1, 2, 0, 0, 0, 0);
        String sum = "1+2*(".repeat(20) + "1+2*a" + ")".repeat(20);
        CHECK.due("sums", "1", Check.tell(x, "count where " + sum + "=4194303 in 1;"));
        CHECK.due("sums on the right", "1", Check.tell(x, "count where 4194303=" + sum + " in 1;"));
        String both = "a=2 or a=1 and[".repeat(18) + "a=2 or a=1 and 8=1+1*(2+1*(2+b+1))" + "]".repeat(18);
        CHECK.due("conditions and sums", "1", Check.tell(x, "count where " + both + " in 1;"));
        CHECK.due("a nest of nots", "1 0", Check.tell(x, "count where " + "not ".repeat(20) + "a=1 in 1;"
            + "count where " + "not ".repeat(19) + "a=1 in 1;"));
    }

    /** A condition that fills the text, behind another one that did so and had a fault. */
    private static void longConditions() {
        CHECK.says("ROOM (2000)");
        PrivateQueries x = new PrivateQueries(1, 2);
        x.row(7, 0, 0, 0, 0, 0);
        Check.grant(x, 0, 1, 1);
        x.draws(0, 0);
        String text = "count where a=7" + "+0".repeat(987) + "+0*0 in 1";
        CHECK.due("without its ;", -1000 - text.length(), Check.read(x, text));
        CHECK.due("with it", 1, Check.read(x, text + ";"));
        CHECK.due("run(0)", 1, x.run(0));
        CHECK.due("told(0)", 1, x.told(0));
    }

    private static void counts() {
        CHECK.says("A COUNT is how many rows there are for which its COND holds (without: all).");
        PrivateQueries x = new PrivateQueries(1, 2);
        CHECK.due("of no rows", "0 0", Check.tell(x, "count in 30; count where 1 = 1 in 30;"));
        Check.rows(x, 30);
        CHECK.due("of 30 rows", "30 30 0 29 1", Check.tell(x, "count in 30; count where 1 = 1 in 30;"
            + "count where 1 = 2 in 30; count where a < 29 in 30; count where a = 29 in 30;"));
        Check.rows(x, 30);
        CHECK.due("of 60 rows, two of each number", "2 28 30", Check.tell(x,
            "count where a = 29 in 30; count where a < 14 in 30; count where a < 15 in 30;"));
    }

    private static void numbersBelowZero() {
        CHECK.says("0 if it is below 0");
        isSum("sum a to 9 in 30;", 0, -1);
        isSum("sum a to 9 in 30;", 0, LEAST);
        isSum("sum a to 9 in 30;", 0, 0);
        isSum("sum a to 9 in 30;", 1, 1);
        isSum("sum a to 9 in 30;", 5, -3, 5, -4);
    }

    private static void numbersAboveTo() {
        CHECK.says("the N of to if it is above that");
        isSum("sum a to 9 in 30;", 8, 8);
        isSum("sum a to 9 in 30;", 9, 9);
        isSum("sum a to 9 in 30;", 9, 10);
        isSum("sum a to 9 in 30;", 9, MOST);
        isSum("sum a to 9 in 30;", 27, MOST, MOST, MOST, LEAST);
        isSum("sum a to 1 in 30;", 3, 1, 2, 3, 0);
        isSum("sum a to 1000 by 1000 in 30;", 1, 1000);
        isSum("sum a to 1000 by 1000 in 30;", 1, 1001);
        isSum("sum a to 1000 by 999 in 30;", 1, 999);
        isSum("sum a to 1000 by 1000 in 30;", 0, 999);
    }

    private static void dividedAndCut() {
        CHECK.says("divided by the N of by (1 without), cut");
        isSum("sum a to 9 in 30;", 17, 8, 9);
        isSum("sum a to 9 by 1 in 30;", 17, 8, 9);
        isSum("sum a to 9 by 2 in 30;", 8, 8, 9);
        isSum("sum a to 9 by 2 in 30;", 9, 9, 9);
        isSum("sum a to 9 by 4 in 30;", 0, 3);
        isSum("sum a to 9 by 4 in 30;", 1, 4);
        isSum("sum a to 9 by 4 in 30;", 1, 7);
        isSum("sum a to 9 by 4 in 30;", 2, 8);
        isSum("sum a to 9 by 4 in 30;", 1, 1, 1, 1, 1);
        isSum("sum a to 9 by 4 in 30;", 1, 3, 4);
        isSum("sum a to 9 by 1000 in 30;", 0, 9, 9, 9);
        PrivateQueries x = new PrivateQueries(1, 2);
        x.row(9, 0, 0, 0, 0, 0);
        CHECK.due("each by its own", "9 4 1 0 1 2 9", Check.tell(x, "sum a to 9 in 30;sum a to 9 by 2 in 30;"
            + "count in 30;bins a from 8 to 9 in 30;sum a to 9 by 4 in 30;sum a to 9 by 1 in 30;"));
        int[] most = new int[60];
        Arrays.fill(most, MOST);
        isSum("sum a to 1 by 2 in 30;", 30, most);
        isSum("sum a to 1000 by 1000 where a > 0 in 30;", 30, Arrays.copyOf(most, 30));
        isSum("sum a to 999 by 1000 in 30;", 29, Arrays.copyOf(most, 30));
    }

    private static void isSum(String text, int want, int... numbers) {
        PrivateQueries x = new PrivateQueries(1, 2);
        for (int one : numbers) {
            x.row(one, 0, 0, 0, 0, 0);
        }
        CHECK.due(text + " of " + Arrays.toString(numbers), "" + want, Check.tell(x, text));
    }

    private static void sumsOverTheRows() {
        CHECK.says("A SUM: that over these rows of the column's number");
        PrivateQueries x = new PrivateQueries(1, 2);
        CHECK.due("of no rows at all", "0", Check.tell(x, "sum a to 9 in 30;"));
        x.row(1, 2, 3, 4, 5, 6);
        x.row(2, 3, 4, 5, 6, 7);
        CHECK.due("each column", "3 5 7 9 11 13", Check.tell(x, "sum a to 9 in 30;sum b to 9 in 30;sum c to 9 in 30;"
            + "sum d to 9 in 30;sum e to 9 in 30;sum f to 9 in 30;"));
        CHECK.due("of some rows, of none", "2 3 0", Check.tell(x,
            "sum a to 9 where f = 7 in 30; sum b to 9 where f = 7 in 30; sum a to 9 where f = 8 in 30;"));
    }

    private static void binsOfEachNumber() {
        CHECK.says("BINS are counts for each number from .. to, of these rows those that have it in the column.");
        PrivateQueries x = new PrivateQueries(1, 2);
        int[] numbers = {-5, -3, -1, -1, 0, 2, 2, 2, 4, MOST, LEAST, 5};
        for (int one : numbers) {
            x.row(0, 0, 0, one, 0, one < 2 ? 1 : 0);
        }
        CHECK.due("from -4 to 3, with -5 and 4 beside them", "0 1 0 2 1 0 3 0", Check.tell(x, "bins d from -4 to 3 in 9;"));
        CHECK.due("the first and the last number", "1 0 2 1", Check.tell(x, "bins d from -3 to 0 in 9;"));
        CHECK.due("one bin", "3", Check.tell(x, "bins d from 2 to 2 in 9;"));
        CHECK.due("of some rows", "0 1 0 2 1 0 0 0", Check.tell(x, "bins d from -4 to 3 where f = 1 in 9;"));
        CHECK.due("of another column", "12 0", Check.tell(x, "bins a from 0 to 1 in 30;"));
        CHECK.due("between others", "12 0 2 1 12", Check.tell(x, "count in 30; bins d from -2 to 0 in 9; count in 30;"));
    }

    private static void binsAtTheEnds() {
        CHECK.says("BINS are counts for each number from .. to");
        PrivateQueries x = new PrivateQueries(1, 2);
        x.row(MOST, LEAST, -MOST, 0, 0, 0);
        CHECK.due("the highest", "0 1", Check.tell(x, "bins a from 2147483646 to 2147483647 in 9;"));
        CHECK.due("the lowest that can be said", "1 0", Check.tell(x, "bins c from - 2147483647 to - 2147483646 in 9;"));
        CHECK.due("the lowest int has no bin", "0 0", Check.tell(x, "bins b from - 2147483647 to - 2147483646 in 9;"));
        CHECK.due("twenty up to the highest", "0 0 0 0 0 0 0 0 0 0 0 0 0 0 0 0 0 0 0 1",
            Check.tell(x, "bins a from 2147483628 to 2147483647 in 1;"));
    }
}
