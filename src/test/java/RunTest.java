/** Promises 10 question, 11 wants, 12 run and 13 told. */
public final class RunTest {
    private static final int LEAST = Integer.MIN_VALUE;
    private static final int MOST = Integer.MAX_VALUE;
    private static final Check CHECK = new Check();

    public static void main(String[] args) {
        questionsAreReckoned();
        wantsOfAll();
        scriptOfLetsAlone();
        conditionsOfRows();
        sumsWrap();
        letsOfLets();
        deepConditions();
        longScripts();
        clampedSums();
        binsFromTheLeast();
        toldWithNoise();
        blocksInTheirOrder();
        refusals();
        latestRunStays();
        largestRun();
        CHECK.end();
    }

    private static void isQuestion(PrivateQueries x, int i, int... want) {
        for (int what = 0; what < 5; what++) {
            CHECK.due("question(" + i + ", " + what + ")", want[what], x.question(i, what));
        }
    }

    private static void questionsAreReckoned() {
        PrivateQueries x = new PrivateQueries(1, 2);
        Check.read(x, "count in 0;sum a to 1000 in 30;sum b to 10 by 4 in 5;sum b to 8 by 4 in 5;"
            + "sum b to 1 by 1000 in 2;bins c from -3 to 16 in 30;bins c from 7 to 7 in 1;sum b to 9 by 4 in 1;");
        isQuestion(x, 0, 0, 1, 1, 0, 1);
        isQuestion(x, 1, 1, 1000, 1, 30, 31);
        isQuestion(x, 2, 1, 3, 1, 5, 6);
        isQuestion(x, 3, 1, 2, 1, 5, 6);
        isQuestion(x, 4, 1, 1, 1, 2, 3);
        isQuestion(x, 5, 2, 1, 20, 30, 620);
        isQuestion(x, 6, 2, 1, 1, 1, 2);
        isQuestion(x, 7, 1, 3, 1, 1, 2);
        CHECK.due("question(8, 0)", PrivateQueries.UNKNOWN, x.question(8, 0));
        CHECK.due("question(-1, 0)", PrivateQueries.UNKNOWN, x.question(-1, 0));
        CHECK.due("question(most, 9)", PrivateQueries.UNKNOWN, x.question(MOST, 9));
        CHECK.due("question(0, 5)", PrivateQueries.OUTSIDE, x.question(0, 5));
        CHECK.due("question(0, -1)", PrivateQueries.OUTSIDE, x.question(0, -1));
        CHECK.due("question(8, 5)", PrivateQueries.UNKNOWN, x.question(8, 5));
        CHECK.due("one question", 1, Check.read(x, "sum a to 6 by 5 in 3;"));
        isQuestion(x, 0, 1, 2, 1, 3, 4);
        CHECK.due("those before are gone", PrivateQueries.UNKNOWN, x.question(1, 0));
        Check.read(x, "count in 4;");
        isQuestion(x, 0, 0, 1, 1, 4, 5);
    }

    private static void wantsOfAll() {
        PrivateQueries x = new PrivateQueries(1, 2);
        CHECK.due("wants(3) before all", PrivateQueries.OUTSIDE, x.wants(3));
        CHECK.due("wants(0) before all", PrivateQueries.STATE, x.wants(0));
        Check.read(x, "count in 2;sum a to 7 by 2 in 5;bins c from -3 to 4 in 3;");
        CHECK.due("units", 1 + 4 + 1, x.wants(0));
        CHECK.due("numbers", 1 + 1 + 8, x.wants(1));
        CHECK.due("cells", 3 + 6 + 32, x.wants(2));
        CHECK.due("wants(3)", PrivateQueries.OUTSIDE, x.wants(3));
        CHECK.due("wants(-1)", PrivateQueries.OUTSIDE, x.wants(-1));
        Check.read(x, "bins a from 1 to 20 in 30;".repeat(12));
        CHECK.due("the most cells", 12 * 20 * 31, x.wants(2));
        Check.read(x, "sum a to 1000 in 30;".repeat(12));
        CHECK.due("the most units", 12000, x.wants(0));
    }

    private static void scriptOfLetsAlone() {
        PrivateQueries x = new PrivateQueries(1, 2);
        Check.read(x, "let g = a = 1;");
        for (int what = 0; what < 3; what++) {
            CHECK.due("wants(" + what + ")", 0, x.wants(what));
        }
        CHECK.due("a run of it, for nothing", 0, x.run(3));
        CHECK.due("numbers", 0, x.count(5));
        CHECK.due("told(0)", PrivateQueries.NONE, x.told(0));
    }

    /** A run by asker 0 with cells of no noise. */
    private static String told(PrivateQueries x, String text) {
        CHECK.due("'" + text + "' is read", true, Check.read(x, text) > 0);
        int cells = x.wants(2);
        x.budget(0, 1000000);
        x.budget(4, 1000000);
        for (int i = x.count(1); i < cells; i += 2) {
            x.draws(0, 0);
        }
        int numbers = x.run(0);
        StringBuilder all = new StringBuilder();
        for (int i = 0; i < numbers; i++) {
            all.append(i > 0 ? " " : "").append(x.told(i));
        }
        return all.toString();
    }

    private static void holds(int rows, String condition) {
        PrivateQueries x = new PrivateQueries(1, 2);
        for (int i = 0; i < 8; i++) {
            x.row(i, 10 - i, i % 3, i * i, -i, 7);
        }
        CHECK.due("rows where " + condition, "" + rows, told(x, "count where " + condition + " in 30;"));
    }

    private static void conditionsOfRows() {
        holds(3, "a < 3");
        holds(4, "a <= 3");
        holds(4, "a > 3");
        holds(5, "a >= 3");
        holds(1, "a = 3");
        holds(7, "a <> 3");
        holds(8, "a = - e");
        holds(8, "a + b = 10");
        holds(8, "f = 7");
        holds(8, "d = a * a");
        holds(3, "c = 0");
        holds(3, "c = 0 and a < 9");
        holds(1, "c = 0 and a < 1");
        holds(4, "c = 0 or a = 1");
        holds(4, "a = 1 or c = 0 and f = 7");
        holds(3, "[a = 1 or c = 0] and a <> 0");
        holds(4, "f = 7 and c = 0 or a = 1 and f = 7");
        holds(3, "a = 1 or a = 2 and a = 3 or a = 4 or a = 5");
        holds(7, "not a = 1");
        holds(6, "not a = 1 and not a = 2");
        holds(8, "not a = 1 or not a = 2");
        holds(1, "not not a = 1");
        holds(7, "not [a = 1 and f = 7]");
        holds(5, "not [not a = 1 and not a = 2 and a <> 3] or a > 5");
        holds(8, "2 + 3 * 4 = 14");
        holds(8, "2 * 3 + 4 = 10");
        holds(8, "10 - 3 - 2 = 5");
        holds(8, "10 - (3 - 2) = 9");
        holds(8, "10 - 3 + 2 = 9");
        holds(8, "10 - 2 * 3 - 1 = 3");
        holds(8, "(2 + 3) * 4 = 20");
        holds(8, "- 2 * 3 = - 6");
        holds(8, "2 * - 3 = - 6");
        holds(8, "2 - - 3 = 5");
        holds(8, "- - 3 = 3");
        holds(8, "- (2 + 3) = - 5");
        holds(8, "- 2 + 3 = 1");
        holds(8, "1 + 2 * 3 * 4 - 5 * 6 + 7 = 2");
        holds(0, "1 > 2");
        holds(8, "- 1 < 0");
    }

    private static void sumsWrap() {
        PrivateQueries x = new PrivateQueries(1, 2);
        x.row(MOST, LEAST, 65536, 46341, -1, 0);
        String[] hold = {"a + 1 = b", "b - 1 = a", "a + a = - 2", "c * c = 0", "d * d < 0", "- b = b", "b < a", "b * e = b",
            "c * c * c = 0", "a * a = 1", "b < 0", "a > b", "- 2147483647 - 1 = b", "2147483647 + 1 < 0"};
        for (String one : hold) {
            CHECK.due(one, "1", told(x, "count where " + one + " in 1;"));
        }
        CHECK.due("e < a", "1", told(x, "count where e < a and e > b in 1;"));
    }

    private static void letsOfLets() {
        PrivateQueries x = new PrivateQueries(1, 2);
        for (int i = 0; i < 8; i++) {
            x.row(i, 0, 0, 0, 0, 0);
        }
        CHECK.due("lets", "3 1 4", told(x, "let z = a < 3; let g = z and a > 1; count where z in 9; count where g in 9;"
            + "let h = g or a > 4; count where h in 9;"));
        StringBuilder chain = new StringBuilder("let g = a < 3;");
        for (char name = 'h'; name < 'q'; name++) {
            char before = (char) (name - 1);
            chain.append("let ").append(name).append(" = ").append((before + " and ").repeat(7)).append(before).append(";");
        }
        CHECK.due("each let names the one before eight times", "3", told(x, chain + "count where p in 9;"));
    }

    /** Nested as deep as may be, with operands that wait on every level. */
    private static void deepConditions() {
        PrivateQueries x = new PrivateQueries(1, 2);
        x.row(1, 2, 0, 0, 0, 0);
        String sum = "1+2*(".repeat(20) + "1+2*a" + ")".repeat(20);
        CHECK.due("sums", "1", told(x, "count where " + sum + "=4194303 in 1;"));
        CHECK.due("sums on the right", "1", told(x, "count where 4194303=" + sum + " in 1;"));
        String truth = "a=2 or a=1 and[".repeat(19) + "a=2 or a=1 and 8=1+1*(2+1*(2+b+1))" + "]".repeat(19);
        CHECK.due("too deep by one", true, Check.read(x, "count where " + truth + " in 1;") < 0);
        String fits = "a=2 or a=1 and[".repeat(18) + "a=2 or a=1 and 8=1+1*(2+1*(2+b+1))" + "]".repeat(18);
        CHECK.due("conditions and sums", "1", told(x, "count where " + fits + " in 1;"));
        CHECK.due("a nest of nots", "1 0", told(x, "count where " + "not ".repeat(20) + "a=1 in 1;"
            + "count where " + "not ".repeat(19) + "a=1 in 1;"));
    }

    /** A condition that fills the text, behind another one that did so and had a fault. */
    private static void longScripts() {
        PrivateQueries x = new PrivateQueries(1, 2);
        x.row(7, 0, 0, 0, 0, 0);
        x.budget(0, 1);
        x.budget(4, 1);
        x.draws(0, 0);
        String text = "count where a=7" + "+0".repeat(987) + "+0*0 in 1";
        CHECK.due("without its ;", -1000 - text.length(), Check.read(x, text));
        CHECK.due("with it", 1, Check.read(x, text + ";"));
        CHECK.due("run(0)", 1, x.run(0));
        CHECK.due("told(0)", 1, x.told(0));
    }

    private static void clampedSums() {
        PrivateQueries x = new PrivateQueries(1, 2);
        x.row(3, -1, LEAST, 0, 0, 1);
        x.row(5, 4, MOST, 0, 0, 1);
        x.row(7, 6, 1, 0, 0, 2);
        x.row(10, 9, 2, 0, 0, 2);
        CHECK.due("without a by", "25", told(x, "sum a to 100 in 30;"));
        CHECK.due("each to 5", "18", told(x, "sum a to 5 in 30;"));
        CHECK.due("each from 0", "19", told(x, "sum b to 100 in 30;"));
        CHECK.due("the ends of int", "13", told(x, "sum c to 10 in 30;"));
        CHECK.due("the sum is divided, and cut", "6", told(x, "sum a to 100 by 4 in 30;"));
        CHECK.due("not each number", "2", told(x, "sum a to 5 by 8 in 30;"));
        CHECK.due("by 2", "12", told(x, "sum a to 100 by 2 in 30;"));
        CHECK.due("below by", "0", told(x, "sum a to 5 by 1000 in 30;"));
        CHECK.due("by 1", "25", told(x, "sum a to 100 by 1 in 30;"));
        CHECK.due("where", "8 17", told(x, "sum a to 100 where f = 1 in 30; sum a to 100 where f = 2 in 30;"));
        CHECK.due("brought to TOP", "10", told(x, "sum a to 100 in 10;"));
        CHECK.due("of no rows", "0", told(x, "sum a to 100 where a < 0 in 10;"));
    }

    private static void binsFromTheLeast() {
        PrivateQueries x = new PrivateQueries(1, 2);
        int[] numbers = {-3, -1, -1, 0, 2, 2, 2, MOST, LEAST, 5};
        for (int one : numbers) {
            x.row(0, 0, 0, one, 0, one < 2 ? 1 : 0);
        }
        CHECK.due("bins", "0 1 0 2 1 0 3 0", told(x, "bins d from -4 to 3 in 9;"));
        CHECK.due("of some rows", "0 1 0 2 1 0 0 0", told(x, "bins d from -4 to 3 where f = 1 in 9;"));
        CHECK.due("one bin", "3", told(x, "bins d from 2 to 2 in 9;"));
        CHECK.due("the highest", "0 1", told(x, "bins d from 2147483646 to 2147483647 in 9;"));
        CHECK.due("the lowest that can be said", "0 0", told(x, "bins d from - 2147483647 to - 2147483646 in 9;"));
        CHECK.due("between others", "10 0 2 1 10", told(x, "count in 30; bins d from -2 to 0 in 9; count in 30;"));
    }

    /** P = 1, Q = 2: 0 and 1 are no noise, 2 and 3 above, 4 and 5 below; a size goes on below 3. */
    private static void toldWithNoise() {
        isTold(5, 9, 5, 0, 0, 0, 0, 0, 0, 0, 0, 0, 0);
        isTold(5, 9, 6, 2, 3, 0, 0, 0, 0, 0, 0, 0, 0);
        isTold(5, 9, 4, 4, 3, 0, 0, 0, 0, 0, 0, 0, 0);
        isTold(5, 9, 8, 3, 2, 2, 5, 0, 0, 0, 0, 0, 0);
        isTold(5, 9, 2, 5, 2, 2, 5, 0, 0, 0, 0, 0, 0);
        isTold(5, 9, 9, 3, 2, 2, 2, 2, 5, 0, 0, 0, 0);
        isTold(5, 9, 0, 5, 2, 2, 2, 2, 5, 0, 0, 0, 0);
        isTold(20, 3, 3, 0, 0, 0, 0);
        isTold(20, 3, 2, 5, 5, 0, 0);
        isTold(20, 3, 3, 3, 0, 0, 0);
        isTold(20, 3, 0, 5, 0, 0, 0);
        isTold(0, 3, 1, 3, 5, 0, 0);
        isTold(0, 3, 3, 3, 0, 0, 5);
        isTold(0, 3, 3, 3, 0, 0, 0);
        isTold(0, 3, 0, 5, 0, 0, 0);
        isTold(0, 0, 0, 3);
        isTold(7, 0, 0, 0);
        isTold(7, 0, 0, 5);
    }

    private static void isTold(int rows, int top, int want, int... block) {
        PrivateQueries x = new PrivateQueries(1, 2);
        x.budget(3, 1);
        x.budget(4, 1);
        for (int i = 0; i < rows; i++) {
            x.row(0, 0, 0, 0, 0, 0);
        }
        Check.draw(x, block);
        Check.read(x, "count in " + top + ";");
        CHECK.due("run(3)", 1, x.run(3));
        CHECK.due(rows + " rows told in 0 .. " + top, want, x.told(0));
        CHECK.due("no cell is left", 0, x.count(1));
    }

    private static void blocksInTheirOrder() {
        PrivateQueries x = new PrivateQueries(1, 2);
        x.budget(0, 100);
        x.budget(4, 100);
        for (int i = 0; i < 4; i++) {
            x.row(i, 0, 0, 0, 0, 0);
        }
        Check.read(x, "count in 2; bins a from 0 to 2 in 1; sum a to 9 in 8;");
        Check.draw(x, 4, 5, 0, 0, 5, 4, 0, 2, 2);
        Check.draw(x, 3, 2, 2, 5, 0, 0, 0, 0, 0, 4, 4, 4);
        CHECK.due("run(0)", 5, x.run(0));
        int[] want = {1, 1, 0, 1, 8};
        for (int i = 0; i < want.length; i++) {
            CHECK.due("told(" + i + ")", want[i], x.told(i));
        }
        CHECK.due("told(5)", PrivateQueries.NONE, x.told(5));
        CHECK.due("told(-1)", PrivateQueries.NONE, x.told(-1));
        CHECK.due("told(least)", PrivateQueries.NONE, x.told(LEAST));
        CHECK.due("told(most)", PrivateQueries.NONE, x.told(MOST));
        CHECK.due("cells behind", 3, x.count(1));
        CHECK.due("the front is a cell that was behind", -1, x.noise(0, 2));
        Check.draw(x, 0);
        CHECK.due("new ones come behind", -2, x.noise(2, 1));
    }

    private static void refusals() {
        PrivateQueries x = new PrivateQueries(1, 2);
        CHECK.due("run(4)", PrivateQueries.UNKNOWN, x.run(4));
        CHECK.due("run(-1)", PrivateQueries.UNKNOWN, x.run(-1));
        CHECK.due("run(0) without a script", PrivateQueries.STATE, x.run(0));
        Check.read(x, "sum a to 5 in 2;");
        CHECK.due("run(4)", PrivateQueries.UNKNOWN, x.run(4));
        CHECK.due("both have nothing", PrivateQueries.POOR, x.run(0));
        x.budget(0, 5);
        CHECK.due("the house has nothing", PrivateQueries.POOR, x.run(0));
        x.budget(4, 4);
        CHECK.due("the house has too little", PrivateQueries.POOR, x.run(0));
        x.budget(4, 11);
        CHECK.due("no cells", PrivateQueries.SHORT, x.run(0));
        CHECK.due("another asker has nothing", PrivateQueries.POOR, x.run(1));
        x.budget(1, 4);
        CHECK.due("another asker has too little", PrivateQueries.POOR, x.run(1));
        Check.draw(x, 0, 0);
        CHECK.due("too few cells", PrivateQueries.SHORT, x.run(0));
        CHECK.due("nothing is spent", 0, x.ledger(0, 0) + x.ledger(4, 0));
        CHECK.due("nothing is taken", 2, x.count(1));
        Check.draw(x, 0, 0);
        CHECK.due("run(0)", 1, x.run(0));
        CHECK.due("spent", 5, x.ledger(0, 0));
        CHECK.due("spent by the house", 5, x.ledger(4, 0));
        CHECK.due("cells", 1, x.count(1));
        CHECK.due("poor comes before short", PrivateQueries.POOR, x.run(0));
        x.budget(0, 100);
        CHECK.due("short then", PrivateQueries.SHORT, x.run(0));
        Check.draw(x, 0, 0, 0, 0, 0);
        CHECK.due("run(0)", 1, x.run(0));
        CHECK.due("the house has one unit left", PrivateQueries.POOR, x.run(0));
        CHECK.due("which it keeps", 1, x.ledger(4, 1));
    }

    private static void latestRunStays() {
        PrivateQueries x = new PrivateQueries(1, 2);
        x.budget(0, 2);
        x.budget(4, 9);
        x.row(1, 1, 1, 1, 1, 1);
        Check.read(x, "bins a from 0 to 2 in 1;");
        Check.draw(x, 0, 0, 0, 0, 0, 0, 0);
        x.run(0);
        CHECK.due("a fault", -1000, x.read());
        CHECK.due("refused", PrivateQueries.SHORT, x.run(0));
        Check.read(x, "count in 0;");
        x.drop(0);
        CHECK.due("numbers", 3, x.count(5));
        CHECK.due("told(1)", 1, x.told(1));
        CHECK.due("told(2)", 0, x.told(2));
        CHECK.due("a new run", 1, x.run(0));
        CHECK.due("told(0)", 0, x.told(0));
        CHECK.due("told(1)", PrivateQueries.NONE, x.told(1));
        CHECK.due("refused", PrivateQueries.POOR, x.run(0));
        CHECK.due("told(0) still", 0, x.told(0));
    }

    private static void largestRun() {
        PrivateQueries x = new PrivateQueries(1, 2);
        x.budget(0, 12);
        x.budget(4, 12);
        for (int i = 0; i < 60; i++) {
            x.row(i % 20, 0, 0, 0, 0, 0);
        }
        Check.read(x, "bins a from 0 to 19 in 1;".repeat(12));
        for (int i = 0; i < 240; i++) {
            x.draws(i % 2 == 0 ? 0 : 4, 3);
        }
        CHECK.due("run(0)", 240, x.run(0));
        int wrong = 0;
        for (int i = 0; i < 60; i++) {
            wrong += x.told(i * 4) == 1 && x.told(i * 4 + 1) == 0 ? 0 : 1;
        }
        CHECK.due("numbers that are not as due", 0, wrong);
        CHECK.due("told(239)", 0, x.told(239));
        CHECK.due("told(240)", PrivateQueries.NONE, x.told(240));
        CHECK.due("cells", 0, x.count(1));
    }
}
