/** Promises 6 budget and 7 ledger. */
public final class LedgerTest {
    private static final Check CHECK = new Check();

    public static void main(String[] args) {
        budgetsAnswerWhatTheyWere();
        wrongNumbers();
        spentAndLeft();
        CHECK.end();
    }

    private static void budgetsAnswerWhatTheyWere() {
        PrivateQueries x = new PrivateQueries(1, 2);
        for (int whose = 0; whose <= 4; whose++) {
            CHECK.due("budget", 0, x.budget(whose, 10 + whose));
            CHECK.due("budget", 10 + whose, x.budget(whose, 1000000));
            CHECK.due("budget", 1000000, x.budget(whose, 20 + whose));
        }
        for (int whose = 0; whose <= 4; whose++) {
            CHECK.due("left to each its own", 20 + whose, x.ledger(whose, 1));
            CHECK.due("budget down to 0", 20 + whose, x.budget(whose, 0));
            CHECK.due("left", 0, x.ledger(whose, 1));
        }
    }

    private static void wrongNumbers() {
        PrivateQueries x = new PrivateQueries(1, 2);
        CHECK.due("budget(5, 1)", PrivateQueries.UNKNOWN, x.budget(5, 1));
        CHECK.due("budget(-1, 1)", PrivateQueries.UNKNOWN, x.budget(-1, 1));
        CHECK.due("budget(5, -1): the first refusal", PrivateQueries.UNKNOWN, x.budget(5, -1));
        CHECK.due("budget(0, -1)", PrivateQueries.OUTSIDE, x.budget(0, -1));
        CHECK.due("budget(4, 1000001)", PrivateQueries.OUTSIDE, x.budget(4, 1000001));
        CHECK.due("budget(4, least)", PrivateQueries.OUTSIDE, x.budget(4, Integer.MIN_VALUE));
        CHECK.due("ledger(5, 0)", PrivateQueries.UNKNOWN, x.ledger(5, 0));
        CHECK.due("ledger(-1, 2): the first refusal", PrivateQueries.UNKNOWN, x.ledger(-1, 2));
        CHECK.due("ledger(0, 2)", PrivateQueries.OUTSIDE, x.ledger(0, 2));
        CHECK.due("ledger(4, -1)", PrivateQueries.OUTSIDE, x.ledger(4, -1));
        CHECK.due("nothing changed", 0, x.ledger(0, 1) + x.ledger(4, 1));
    }

    private static void spentAndLeft() {
        PrivateQueries x = new PrivateQueries(1, 2);
        x.budget(1, 10);
        x.budget(3, 4);
        x.budget(4, 12);
        Check.draw(x, 0, 0, 0, 0);
        Check.read(x, "sum a to 7 by 2 in 0;");
        CHECK.due("run(1)", 1, x.run(1));
        CHECK.due("run(3)", 1, x.run(3));
        CHECK.due("spent by 1", 4, x.ledger(1, 0));
        CHECK.due("left to 1", 6, x.ledger(1, 1));
        CHECK.due("spent by 3", 4, x.ledger(3, 0));
        CHECK.due("left to 3", 0, x.ledger(3, 1));
        CHECK.due("spent by 0", 0, x.ledger(0, 0));
        CHECK.due("spent by the house", 8, x.ledger(4, 0));
        CHECK.due("left to the house", 4, x.ledger(4, 1));
        CHECK.due("less than is spent", PrivateQueries.STATE, x.budget(4, 7));
        CHECK.due("outside before state", PrivateQueries.OUTSIDE, x.budget(4, -1));
        CHECK.due("refused, so as before", 12, x.budget(4, 8));
        CHECK.due("left to the house", 0, x.ledger(4, 1));
        CHECK.due("just what is spent", 4, x.budget(3, 4));
        CHECK.due("one less", PrivateQueries.STATE, x.budget(3, 3));
        CHECK.due("more again", 4, x.budget(3, 9));
        CHECK.due("left to 3", 5, x.ledger(3, 1));
        CHECK.due("spent by 3 stays", 4, x.ledger(3, 0));
    }
}
