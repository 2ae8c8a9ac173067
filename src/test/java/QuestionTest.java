/** Promises 10 question and 11 wants: what is reckoned from the script alone. */
public final class QuestionTest {
    private static final int LEAST = Integer.MIN_VALUE;
    private static final int MOST = Integer.MAX_VALUE;
    private static final Check CHECK = new Check();

    public static void main(String[] args) {
        sorts();
        unitsOfCountsAndBins();
        unitsOfSums();
        numbers();
        tops();
        cells();
        unknownQuestions();
        outsideOfAQuestion();
        wantsOfAll();
        wantsTheMost();
        wantsOutside();
        wantsWithoutAScript();
        CHECK.end();
    }

    /** One part of the only question of a script. */
    private static void isPart(String text, int what, int want) {
        PrivateQueries x = new PrivateQueries(1, 2);
        CHECK.due("'" + text + "' is read", 1, Check.read(x, text));
        CHECK.due("question(0, " + what + ") of '" + text + "'", want, x.question(0, what));
    }

    private static void sorts() {
        CHECK.says("what = 0 its sort (0 count, 1 sum, 2 bins)");
        isPart("count in 3;", 0, 0);
        isPart("sum a to 3 in 3;", 0, 1);
        isPart("bins a from 1 to 3 in 3;", 0, 2);
        PrivateQueries x = new PrivateQueries(1, 2);
        Check.read(x, "bins a from 1 to 3 in 3; let g = a = 1; count in 3; sum a to 3 in 3;");
        int[] want = {2, 0, 1};
        for (int i = 0; i < 3; i++) {
            CHECK.due("question(" + i + ", 0)", want[i], x.question(i, 0));
        }
    }

    private static void unitsOfCountsAndBins() {
        CHECK.says("UNITS of a question: 1 of count and bins");
        isPart("count in 0;", 1, 1);
        isPart("count where a = 1 in 30;", 1, 1);
        isPart("bins a from 1 to 1 in 0;", 1, 1);
        isPart("bins a from -3 to 16 in 30;", 1, 1);
    }

    private static void unitsOfSums() {
        CHECK.says("of sum N of to divided by N of by, rounded up");
        isPart("sum a to 1 in 0;", 1, 1);
        isPart("sum a to 1000 in 0;", 1, 1000);
        isPart("sum a to 1000 by 1 in 0;", 1, 1000);
        isPart("sum a to 1000 by 1000 in 0;", 1, 1);
        isPart("sum a to 1000 by 999 in 0;", 1, 2);
        isPart("sum a to 999 by 1000 in 0;", 1, 1);
        isPart("sum a to 1 by 1000 in 0;", 1, 1);
        isPart("sum a to 7 by 4 in 0;", 1, 2);
        isPart("sum a to 8 by 4 in 0;", 1, 2);
        isPart("sum a to 9 by 4 in 0;", 1, 3);
        isPart("sum a to 4 by 4 in 0;", 1, 1);
        isPart("sum a to 5 by 4 in 0;", 1, 2);
    }

    private static void numbers() {
        CHECK.says("NUMBERS of it: 1, of bins as many as there are bins");
        isPart("count in 30;", 2, 1);
        isPart("sum a to 1000 in 30;", 2, 1);
        isPart("bins a from 7 to 7 in 30;", 2, 1);
        isPart("bins a from 7 to 8 in 30;", 2, 2);
        isPart("bins a from -10 to 9 in 30;", 2, 20);
        isPart("bins a from 2147483628 to 2147483647 in 30;", 2, 20);
        isPart("bins a from -2147483647 to -2147483628 in 30;", 2, 20);
    }

    private static void tops() {
        CHECK.says("N of in is a question's TOP");
        isPart("count in 0;", 3, 0);
        isPart("count in 30;", 3, 30);
        isPart("sum a to 5 by 2 in 7;", 3, 7);
        isPart("bins a from 1 to 2 where a = 9 in 3;", 3, 3);
    }

    private static void cells() {
        CHECK.says("CELLS of it: NUMBERS times (TOP + 1)");
        isPart("count in 0;", 4, 1);
        isPart("count in 30;", 4, 31);
        isPart("sum a to 1000 in 5;", 4, 6);
        isPart("bins a from 7 to 7 in 0;", 4, 1);
        isPart("bins a from 1 to 20 in 0;", 4, 20);
        isPart("bins a from 1 to 20 in 30;", 4, 620);
    }

    private static void unknownQuestions() {
        CHECK.says("Of question i");
        PrivateQueries x = new PrivateQueries(1, 2);
        CHECK.due("question(0, 0) without a script", PrivateQueries.UNKNOWN, x.question(0, 0));
        Check.read(x, "let g = a = 1;");
        CHECK.due("question(0, 0) of lets alone", PrivateQueries.UNKNOWN, x.question(0, 0));
        Check.read(x, "count in 0;".repeat(10) + "count in 6;count in 7;");
        CHECK.due("question(-1, 3)", PrivateQueries.UNKNOWN, x.question(-1, 3));
        CHECK.due("question(0, 3)", 0, x.question(0, 3));
        CHECK.due("question(10, 3)", 6, x.question(10, 3));
        CHECK.due("question(11, 3)", 7, x.question(11, 3));
        CHECK.due("question(12, 3)", PrivateQueries.UNKNOWN, x.question(12, 3));
        CHECK.due("question(least, 3)", PrivateQueries.UNKNOWN, x.question(LEAST, 3));
        CHECK.due("question(most, 3)", PrivateQueries.UNKNOWN, x.question(MOST, 3));
        Check.read(x, "sum a to 6 by 5 in 3;");
        CHECK.due("question(0, 1)", 2, x.question(0, 1));
        CHECK.due("those of the script before are gone", PrivateQueries.UNKNOWN, x.question(1, 3));
        Check.read(x, "count in 0;count in 0;sum");
        CHECK.due("none comes by a fault", PrivateQueries.UNKNOWN, x.question(1, 3));
    }

    private static void outsideOfAQuestion() {
        CHECK.says("3 TOP, 4 CELLS. UNKNOWN, OUTSIDE.");
        PrivateQueries x = new PrivateQueries(1, 2);
        Check.read(x, "count in 2;");
        CHECK.due("question(0, -1)", PrivateQueries.OUTSIDE, x.question(0, -1));
        CHECK.due("question(0, 0)", 0, x.question(0, 0));
        CHECK.due("question(0, 4)", 3, x.question(0, 4));
        CHECK.due("question(0, 5)", PrivateQueries.OUTSIDE, x.question(0, 5));
        CHECK.due("question(0, least)", PrivateQueries.OUTSIDE, x.question(0, LEAST));
        CHECK.due("question(0, most)", PrivateQueries.OUTSIDE, x.question(0, MOST));
    }

    private static void areWants(PrivateQueries x, int units, int numbers, int cells) {
        CHECK.due("wants(0)", units, x.wants(0));
        CHECK.due("wants(1)", numbers, x.wants(1));
        CHECK.due("wants(2)", cells, x.wants(2));
    }

    private static void wantsOfAll() {
        CHECK.says("what = 0 UNITS, 1 NUMBERS, 2 CELLS of all its questions");
        PrivateQueries x = new PrivateQueries(1, 2);
        Check.read(x, "let g = a = 1;");
        areWants(x, 0, 0, 0);
        Check.read(x, "count in 0;");
        areWants(x, 1, 1, 1);
        Check.read(x, "count in 2;sum a to 7 by 2 in 5;bins c from -3 to 4 in 3;");
        areWants(x, 1 + 4 + 1, 1 + 1 + 8, 3 + 6 + 32);
    }

    private static void wantsTheMost() {
        CHECK.says("CELLS of all its questions");
        PrivateQueries x = new PrivateQueries(1, 2);
        Check.read(x, "bins a from 1 to 20 in 30;".repeat(12));
        areWants(x, 12, 240, 7440);
        Check.read(x, "sum a to 1000 in 30;".repeat(12));
        areWants(x, 12000, 12, 372);
    }

    private static void wantsOutside() {
        CHECK.says("2 CELLS of all its questions. OUTSIDE");
        PrivateQueries x = new PrivateQueries(1, 2);
        Check.read(x, "count in 2;");
        CHECK.due("wants(-1)", PrivateQueries.OUTSIDE, x.wants(-1));
        CHECK.due("wants(0)", 1, x.wants(0));
        CHECK.due("wants(2)", 3, x.wants(2));
        CHECK.due("wants(3)", PrivateQueries.OUTSIDE, x.wants(3));
        CHECK.due("wants(least)", PrivateQueries.OUTSIDE, x.wants(LEAST));
        CHECK.due("wants(most)", PrivateQueries.OUTSIDE, x.wants(MOST));
    }

    private static void wantsWithoutAScript() {
        CHECK.says("OUTSIDE, STATE (there is none)");
        PrivateQueries x = new PrivateQueries(1, 2);
        areWants(x, PrivateQueries.STATE, PrivateQueries.STATE, PrivateQueries.STATE);
        Check.read(x, "count in 2;count");
        areWants(x, PrivateQueries.STATE, PrivateQueries.STATE, PrivateQueries.STATE);
    }
}
