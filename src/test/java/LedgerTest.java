/** Promises 6 budget and 7 ledger. */
public final class LedgerTest {
    private static final int LEAST = Integer.MIN_VALUE;
    private static final int MOST = Integer.MAX_VALUE;
    private static final Check CHECK = new Check();

    public static void main(String[] args) {
        budgetAnswersWhatItWas();
        askersAndTheHouse();
        unitsOfABudget();
        notBelowWhatIsSpent();
        spentAndLeft();
        ledgerOfNobody();
        ledgerOutside();
        CHECK.end();
    }

    private static void budgetAnswersWhatItWas() {
        CHECK.says("The BUDGET of an asker, or of the house (4), becomes so many units: what it was.");
        PrivateQueries x = new PrivateQueries(1, 2);
        for (int whose = 0; whose <= 4; whose++) {
            CHECK.due("budget(" + whose + ", ..) at first", 0, x.budget(whose, 10 + whose));
        }
        for (int whose = 0; whose <= 4; whose++) {
            CHECK.due("left to " + whose, 10 + whose, x.ledger(whose, 1));
            CHECK.due("budget(" + whose + ", ..) again", 10 + whose, x.budget(whose, 0));
            CHECK.due("nothing left to " + whose, 0, x.ledger(whose, 1));
        }
    }

    private static void askersAndTheHouse() {
        CHECK.says("those of four ASKERS 0 .. 3, and 4 that of THE HOUSE");
        PrivateQueries x = new PrivateQueries(1, 2);
        CHECK.due("budget(-1, 1)", PrivateQueries.UNKNOWN, x.budget(-1, 1));
        CHECK.due("budget(0, 1)", 0, x.budget(0, 1));
        CHECK.due("budget(3, 1)", 0, x.budget(3, 1));
        CHECK.due("budget(4, 1)", 0, x.budget(4, 1));
        CHECK.due("budget(5, 1)", PrivateQueries.UNKNOWN, x.budget(5, 1));
        CHECK.due("budget(least, 1)", PrivateQueries.UNKNOWN, x.budget(LEAST, 1));
        CHECK.due("budget(most, 1)", PrivateQueries.UNKNOWN, x.budget(MOST, 1));
    }

    private static void unitsOfABudget() {
        CHECK.says("OUTSIDE (0 .. 1000000)");
        PrivateQueries x = new PrivateQueries(1, 2);
        CHECK.due("budget(0, 1000000)", 0, x.budget(0, 1000000));
        CHECK.due("budget(0, 1000001)", PrivateQueries.OUTSIDE, x.budget(0, 1000001));
        CHECK.due("budget(0, most)", PrivateQueries.OUTSIDE, x.budget(0, MOST));
        CHECK.due("it stayed", 1000000, x.ledger(0, 1));
        CHECK.due("budget(0, 0)", 1000000, x.budget(0, 0));
        CHECK.due("budget(0, -1)", PrivateQueries.OUTSIDE, x.budget(0, -1));
        CHECK.due("budget(0, least)", PrivateQueries.OUTSIDE, x.budget(0, LEAST));
        CHECK.due("it stayed", 0, x.ledger(0, 1));
        CHECK.due("budget(4, 1000000)", 0, x.budget(4, 1000000));
        CHECK.due("budget(4, 1000001)", PrivateQueries.OUTSIDE, x.budget(4, 1000001));
    }

    /** Askers 1 and 3 have spent four units each, and so the house eight. */
    private static PrivateQueries spent() {
        PrivateQueries x = new PrivateQueries(1, 2);
        x.budget(1, 10);
        x.budget(3, 4);
        x.budget(4, 12);
        Check.drawZeros(x, 2);
        Check.read(x, "sum a to 7 by 2 in 0;");
        CHECK.due("run(1)", 1, x.run(1));
        CHECK.due("run(3)", 1, x.run(3));
        return x;
    }

    private static void notBelowWhatIsSpent() {
        CHECK.says("STATE (it would be less than what is spent)");
        PrivateQueries x = spent();
        CHECK.due("the house's, one less", PrivateQueries.STATE, x.budget(4, 7));
        CHECK.due("the house's, just as much", 12, x.budget(4, 8));
        CHECK.due("left to the house", 0, x.ledger(4, 1));
        CHECK.due("an asker's, one less", PrivateQueries.STATE, x.budget(1, 3));
        CHECK.due("an asker's, nothing", PrivateQueries.STATE, x.budget(1, 0));
        CHECK.due("it stayed", 6, x.ledger(1, 1));
        CHECK.due("an asker's, just as much", 10, x.budget(1, 4));
        CHECK.due("of an asker who spent nothing, nothing", 0, x.budget(0, 0));
        CHECK.due("more again", 4, x.budget(3, 9));
        CHECK.due("left to 3", 5, x.ledger(3, 1));
        CHECK.due("spent by 3, as before", 4, x.ledger(3, 0));
    }

    private static void spentAndLeft() {
        CHECK.says("How many units an asker, or the house, has spent (0), or has left (1).");
        PrivateQueries x = spent();
        int[] spent = {0, 4, 0, 4, 8};
        int[] left = {0, 6, 0, 0, 4};
        for (int whose = 0; whose <= 4; whose++) {
            CHECK.due("spent by " + whose, spent[whose], x.ledger(whose, 0));
            CHECK.due("left to " + whose, left[whose], x.ledger(whose, 1));
        }
    }

    private static void ledgerOfNobody() {
        CHECK.says("has spent (0), or has left (1). UNKNOWN");
        PrivateQueries x = new PrivateQueries(1, 2);
        CHECK.due("ledger(-1, 0)", PrivateQueries.UNKNOWN, x.ledger(-1, 0));
        CHECK.due("ledger(0, 0)", 0, x.ledger(0, 0));
        CHECK.due("ledger(4, 0)", 0, x.ledger(4, 0));
        CHECK.due("ledger(5, 0)", PrivateQueries.UNKNOWN, x.ledger(5, 0));
        CHECK.due("ledger(least, 1)", PrivateQueries.UNKNOWN, x.ledger(LEAST, 1));
        CHECK.due("ledger(most, 1)", PrivateQueries.UNKNOWN, x.ledger(MOST, 1));
    }

    private static void ledgerOutside() {
        CHECK.says("UNKNOWN, OUTSIDE.");
        PrivateQueries x = new PrivateQueries(1, 2);
        CHECK.due("ledger(0, -1)", PrivateQueries.OUTSIDE, x.ledger(0, -1));
        CHECK.due("ledger(0, 1)", 0, x.ledger(0, 1));
        CHECK.due("ledger(0, 2)", PrivateQueries.OUTSIDE, x.ledger(0, 2));
        CHECK.due("ledger(4, 2)", PrivateQueries.OUTSIDE, x.ledger(4, 2));
        CHECK.due("ledger(0, least)", PrivateQueries.OUTSIDE, x.ledger(0, LEAST));
        CHECK.due("ledger(0, most)", PrivateQueries.OUTSIDE, x.ledger(0, MOST));
    }
}
