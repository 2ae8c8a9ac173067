import java.util.Arrays;

/** Promises 12 run and 13 told, with the document's part on a run. */
public final class RunTest {
    private static final int LEAST = Integer.MIN_VALUE;
    private static final int MOST = Integer.MAX_VALUE;
    private static final Check CHECK = new Check();

    public static void main(String[] args) {
        runAnswersHowMany();
        runOfNobody();
        runWithoutAScript();
        poorAsker();
        poorHouse();
        unitsOfAllQuestions();
        shortTape();
        cellsOfAllQuestions();
        bothHaveSpent();
        neverOverdrawn();
        broughtToTheTop();
        noiseIsAdded();
        broughtAgain();
        blocksInTheirOrder();
        binsFromTheLeast();
        cellsAreGone();
        largestRun();
        toldNumbers();
        latestRun();
        CHECK.end();
    }

    private static void runAnswersHowMany() {
        CHECK.says("A RUN by an asker: how many numbers are told.");
        PrivateQueries x = new PrivateQueries(1, 2);
        Check.grant(x, 0, 100, 100);
        Check.drawZeros(x, 50);
        Check.read(x, "count in 1;");
        CHECK.due("one", 1, x.run(0));
        Check.read(x, "count in 1; sum a to 3 in 1; bins a from 1 to 20 in 1;");
        CHECK.due("one, one and twenty", 22, x.run(0));
        Check.read(x, "let g = a = 1;");
        CHECK.due("of lets alone, none", 0, x.run(0));
    }

    private static void runOfNobody() {
        CHECK.says("how many numbers are told. UNKNOWN");
        PrivateQueries x = new PrivateQueries(1, 2);
        Check.read(x, "let g = a = 1;");
        CHECK.due("run(-1)", PrivateQueries.UNKNOWN, x.run(-1));
        for (int asker = 0; asker <= 3; asker++) {
            CHECK.due("run(" + asker + ")", 0, x.run(asker));
        }
        CHECK.due("run(4), the house", PrivateQueries.UNKNOWN, x.run(4));
        CHECK.due("run(least)", PrivateQueries.UNKNOWN, x.run(LEAST));
        CHECK.due("run(most)", PrivateQueries.UNKNOWN, x.run(MOST));
    }

    private static void runWithoutAScript() {
        CHECK.says("STATE (there is no script)");
        PrivateQueries x = new PrivateQueries(1, 2);
        Check.grant(x, 3, 100, 100);
        Check.drawZeros(x, 50);
        CHECK.due("run(3)", PrivateQueries.STATE, x.run(3));
        Check.read(x, "count in 1");
        CHECK.due("run(3) behind a fault", PrivateQueries.STATE, x.run(3));
        Check.read(x, "count in 1;");
        CHECK.due("run(3) with one", 1, x.run(3));
    }

    /** An object with a script of seven units and three cells, and cells enough. */
    private static PrivateQueries sevenUnits(int asker, int house) {
        PrivateQueries x = new PrivateQueries(1, 2);
        Check.grant(x, 2, asker, house);
        Check.drawZeros(x, 6);
        Check.read(x, "sum a to 7 in 2;");
        return x;
    }

    private static void poorAsker() {
        CHECK.says("POOR, if its UNITS (of all questions) are more than the asker");
        CHECK.due("nothing", PrivateQueries.POOR, sevenUnits(0, 100).run(2));
        CHECK.due("one too few", PrivateQueries.POOR, sevenUnits(6, 100).run(2));
        CHECK.due("just enough", 1, sevenUnits(7, 100).run(2));
        PrivateQueries x = sevenUnits(13, 100);
        CHECK.due("the first", 1, x.run(2));
        CHECK.due("six are left", PrivateQueries.POOR, x.run(2));
        x.budget(2, 14);
        CHECK.due("seven are left", 1, x.run(2));
        CHECK.due("another asker has none", PrivateQueries.POOR, sevenUnits(100, 100).run(1));
    }

    private static void poorHouse() {
        CHECK.says("or the house has left");
        CHECK.due("nothing", PrivateQueries.POOR, sevenUnits(100, 0).run(2));
        CHECK.due("one too few", PrivateQueries.POOR, sevenUnits(100, 6).run(2));
        CHECK.due("just enough", 1, sevenUnits(100, 7).run(2));
        PrivateQueries x = sevenUnits(100, 13);
        x.budget(1, 100);
        CHECK.due("the first", 1, x.run(2));
        CHECK.due("six are left", PrivateQueries.POOR, x.run(2));
        CHECK.due("for another, too", PrivateQueries.POOR, x.run(1));
        x.budget(4, 14);
        CHECK.due("seven are left", 1, x.run(1));
    }

    private static void unitsOfAllQuestions() {
        CHECK.says("its UNITS (of all questions)");
        PrivateQueries x = new PrivateQueries(1, 2);
        Check.drawZeros(x, 50);
        Check.read(x, "count in 0; sum a to 7 by 2 in 0; bins a from 1 to 9 in 0;");
        Check.grant(x, 0, 5, 6);
        CHECK.due("five", PrivateQueries.POOR, x.run(0));
        Check.grant(x, 0, 6, 5);
        CHECK.due("five of the house", PrivateQueries.POOR, x.run(0));
        Check.grant(x, 0, 6, 6);
        CHECK.due("six", 11, x.run(0));
        Check.read(x, "sum a to 1000 in 0;".repeat(12));
        Check.grant(x, 1, 11999, 12006);
        CHECK.due("11999", PrivateQueries.POOR, x.run(1));
        Check.grant(x, 1, 12000, 12006);
        CHECK.due("12000", 12, x.run(1));
        CHECK.due("nothing is left to the house", 0, x.ledger(4, 1));
    }

    private static void shortTape() {
        CHECK.says("SHORT, if its CELLS are more than the tape has");
        PrivateQueries x = new PrivateQueries(1, 2);
        Check.grant(x, 0, 9, 9);
        Check.read(x, "count in 2;");
        CHECK.due("no cells", PrivateQueries.SHORT, x.run(0));
        Check.drawZeros(x, 2);
        CHECK.due("one too few", PrivateQueries.SHORT, x.run(0));
        Check.drawZeros(x, 1);
        CHECK.due("just enough", 1, x.run(0));
        CHECK.due("none are left", PrivateQueries.SHORT, x.run(0));
        Check.drawZeros(x, 5);
        CHECK.due("more than enough", 1, x.run(0));
        CHECK.due("two are left", PrivateQueries.SHORT, x.run(0));
    }

    private static void cellsOfAllQuestions() {
        CHECK.says("CELLS of it: NUMBERS times (TOP + 1).");
        PrivateQueries x = new PrivateQueries(1, 2);
        Check.grant(x, 0, 9, 9);
        Check.read(x, "count in 0; sum a to 1 in 3; bins a from 1 to 4 in 2;");
        Check.drawZeros(x, 16);
        CHECK.due("16", PrivateQueries.SHORT, x.run(0));
        Check.drawZeros(x, 1);
        CHECK.due("17", 6, x.run(0));
        CHECK.due("none is left", 0, x.count(1));
        Check.read(x, "let g = a = 1;");
        CHECK.due("lets want none", 0, x.run(0));
    }

    private static void bothHaveSpent() {
        CHECK.says("otherwise both have spent the units");
        PrivateQueries x = sevenUnits(9, 20);
        x.budget(0, 8);
        x.run(2);
        CHECK.due("the asker", 7, x.ledger(2, 0));
        CHECK.due("the house", 7, x.ledger(4, 0));
        x.run(0);
        CHECK.due("another asker", 7, x.ledger(0, 0));
        CHECK.due("the house", 14, x.ledger(4, 0));
        CHECK.due("the first one no more", 7, x.ledger(2, 0));
        CHECK.due("one who did not run", 0, x.ledger(1, 0));
        int[] left = {1, 0, 2, 0, 6};
        for (int whose = 0; whose <= 4; whose++) {
            CHECK.due("left to " + whose, left[whose], x.ledger(whose, 1));
        }
    }

    private static void neverOverdrawn() {
        CHECK.says("a ledger that is never overdrawn");
        PrivateQueries x = new PrivateQueries(1, 2);
        for (int asker = 0; asker <= 3; asker++) {
            x.budget(asker, 10);
        }
        x.budget(4, 35);
        Check.drawZeros(x, 100);
        Check.read(x, "sum a to 3 in 0;");
        int runs = 0;
        for (int i = 0; i < 20; i++) {
            runs += x.run(i % 4) > 0 ? 1 : 0;
        }
        CHECK.due("runs", 11, runs);
        CHECK.due("left to the house", 2, x.ledger(4, 1));
        int[] left = {1, 1, 1, 4};
        for (int asker = 0; asker <= 3; asker++) {
            CHECK.due("left to " + asker, left[asker], x.ledger(asker, 1));
        }
    }

    /** What so many rows are told as, with P = 1 and Q = 2: 0, 1 no noise, 2, 3 above, 4, 5 below; a size goes on below 3. */
    private static void isTold(int rows, int top, int want, int... block) {
        PrivateQueries x = new PrivateQueries(1, 2);
        Check.grant(x, 3, 1, 1);
        Check.rows(x, rows);
        Check.draw(x, block);
        Check.read(x, "count in " + top + ";");
        CHECK.due("run(3)", 1, x.run(3));
        CHECK.due(rows + " rows told in 0 .. " + top + " with " + Arrays.toString(block), want, x.told(0));
    }

    private static void broughtToTheTop() {
        CHECK.says("WHAT IS TOLD of a number: brought to 0 .. TOP (the nearest)");
        isTold(0, 3, 0, 0, 0, 0, 0);
        isTold(3, 3, 3, 0, 0, 0, 0);
        isTold(4, 3, 3, 0, 0, 0, 0);
        isTold(60, 3, 3, 0, 0, 0, 0);
        isTold(4, 3, 2, 5, 5, 0, 0);
        isTold(60, 3, 2, 5, 5, 0, 0);
        isTold(60, 3, 1, 5, 0, 5, 0);
        isTold(60, 0, 0, 0);
    }

    private static void noiseIsAdded() {
        CHECK.says("Z in sum");
        isTold(5, 9, 5, 1, 0, 0, 0, 0, 0, 0, 0, 0, 0);
        isTold(5, 9, 6, 2, 3, 0, 0, 0, 0, 0, 0, 0, 0);
        isTold(5, 9, 4, 4, 3, 0, 0, 0, 0, 0, 0, 0, 0);
        isTold(5, 9, 8, 3, 2, 2, 5, 0, 0, 0, 0, 0, 0);
        isTold(5, 9, 2, 5, 2, 2, 5, 0, 0, 0, 0, 0, 0);
        isTold(0, 3, 1, 3, 5, 0, 0);
    }

    private static void broughtAgain() {
        CHECK.says("and brought to 0 .. TOP again");
        isTold(5, 9, 9, 3, 2, 2, 2, 5, 5, 0, 0, 0, 0);
        isTold(5, 9, 9, 3, 2, 2, 2, 2, 5, 0, 0, 0, 0);
        isTold(5, 9, 9, 3, 0, 0, 0, 0, 0, 0, 0, 0, 0);
        isTold(4, 9, 0, 5, 2, 2, 2, 5, 5, 0, 0, 0, 0);
        isTold(4, 9, 0, 5, 2, 2, 2, 2, 5, 0, 0, 0, 0);
        isTold(4, 9, 0, 5, 0, 0, 0, 0, 0, 0, 0, 0, 0);
        isTold(0, 3, 3, 3, 0, 0, 5);
        isTold(0, 3, 3, 3, 0, 0, 0);
        isTold(3, 3, 0, 5, 0, 0, 5);
        isTold(3, 3, 0, 5, 0, 0, 0);
        isTold(0, 0, 0, 3);
        isTold(0, 0, 0, 5);
        isTold(7, 0, 0, 5);
    }

    private static void blocksInTheirOrder() {
        CHECK.says("the questions are told one behind the other");
        PrivateQueries x = new PrivateQueries(1, 2);
        Check.grant(x, 0, 100, 100);
        Check.rows(x, 4);
        Check.read(x, "count in 2; bins a from 0 to 2 in 1; sum a to 9 in 8;");
        Check.draw(x, 4, 5, 0, 0, 5, 4, 0, 2, 2);
        Check.draw(x, 3, 2, 2, 5, 0, 0, 0, 0, 0);
        CHECK.due("run(0)", 5, x.run(0));
        CHECK.due("told", "1 1 0 1 8", Check.told(x, 5));
    }

    private static void binsFromTheLeast() {
        CHECK.says("bins from the least on, each number with the next block from the front of the tape");
        PrivateQueries x = new PrivateQueries(1, 2);
        Check.grant(x, 0, 1, 1);
        x.row(-2, 0, 0, 0, 0, 0);
        x.row(-2, 0, 0, 0, 0, 0);
        x.row(1, 0, 0, 0, 0, 0);
        Check.read(x, "bins a from -2 to 1 in 2;");
        Check.draw(x, 4, 5, 0, 2, 5, 0);
        Check.draw(x, 2, 2, 5, 0, 0, 0);
        CHECK.due("run(0)", 4, x.run(0));
        CHECK.due("told", "1 1 2 1", Check.told(x, 4));
    }

    private static void cellsAreGone() {
        CHECK.says("these cells are gone then");
        PrivateQueries x = new PrivateQueries(1, 2);
        Check.grant(x, 0, 2, 2);
        Check.read(x, "count in 1;");
        Check.draw(x, 0, 0, 2, 5, 4);
        x.run(0);
        CHECK.due("cells", 3, x.count(1));
        CHECK.due("the one behind is the first", 1, x.noise(0, 1));
        CHECK.due("and the last the third", -1, x.noise(2, 0));
        CHECK.due("no fourth", PrivateQueries.SHORT, x.noise(3, 0));
        Check.draw(x, 2);
        CHECK.due("a new one comes behind them", -2, x.noise(2, 1));
        x.run(0);
        CHECK.due("the next run takes the next ones", 1, x.told(0));
        CHECK.due("cells", 2, x.count(1));
    }

    private static void largestRun() {
        CHECK.says("of bins as many as there are bins");
        PrivateQueries x = new PrivateQueries(1, 2);
        Check.grant(x, 0, 12, 12);
        for (int i = 0; i < 60; i++) {
            x.row(i % 20, 0, 0, 0, 0, 0);
        }
        Check.read(x, "bins a from 0 to 19 in 1;".repeat(12));
        for (int i = 0; i < 240; i++) {
            x.draws(i % 2 == 0 ? 0 : 4, 3);
        }
        CHECK.due("run(0)", 240, x.run(0));
        int wrong = 0;
        for (int i = 0; i < 60; i++) {
            wrong += x.told(i * 2) == 1 && x.told(i * 2 + 1) == 0 ? 0 : 1;
        }
        CHECK.due("numbers that are not as due", 0, wrong);
        CHECK.due("told(238)", 1, x.told(238));
        CHECK.due("told(239)", 0, x.told(239));
        CHECK.due("told(240)", PrivateQueries.NONE, x.told(240));
        CHECK.due("cells", 0, x.count(1));
    }

    private static void toldNumbers() {
        CHECK.says("The i-th number (0 the first) that the latest run told; NONE.");
        PrivateQueries x = new PrivateQueries(1, 2);
        CHECK.due("told(0) without a run", PrivateQueries.NONE, x.told(0));
        Check.rows(x, 3);
        CHECK.due("told", "3 1 0", Check.tell(x, "count in 3; bins a from 2 to 3 in 3;"));
        CHECK.due("told(0)", 3, x.told(0));
        CHECK.due("told(2)", 0, x.told(2));
        CHECK.due("told(3)", PrivateQueries.NONE, x.told(3));
        CHECK.due("told(-1)", PrivateQueries.NONE, x.told(-1));
        CHECK.due("told(least)", PrivateQueries.NONE, x.told(LEAST));
        CHECK.due("told(most)", PrivateQueries.NONE, x.told(MOST));
    }

    private static void latestRun() {
        CHECK.says("that the latest run told");
        PrivateQueries x = new PrivateQueries(1, 2);
        Check.grant(x, 0, 2, 9);
        x.row(1, 1, 1, 1, 1, 1);
        Check.read(x, "bins a from 0 to 2 in 1;");
        Check.drawZeros(x, 7);
        x.run(0);
        CHECK.due("a fault", -1000, x.read());
        CHECK.due("a refused run", PrivateQueries.SHORT, x.run(0));
        Check.read(x, "count in 0;");
        x.drop(0);
        CHECK.due("told", "0 1 0", Check.told(x, 3));
        CHECK.due("a new run", 1, x.run(0));
        CHECK.due("told(0)", 0, x.told(0));
        CHECK.due("told(1)", PrivateQueries.NONE, x.told(1));
        CHECK.due("a refused run", PrivateQueries.POOR, x.run(0));
        CHECK.due("told(0) still", 0, x.told(0));
        Check.read(x, "let g = a = 1;");
        CHECK.due("a run that tells none", 0, x.run(0));
        CHECK.due("told(0)", PrivateQueries.NONE, x.told(0));
    }
}
