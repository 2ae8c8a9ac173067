/** Promise 1: A new object; and that 512 calls of it are answered. */
public final class NewObjectTest {
    private static final int LEAST = Integer.MIN_VALUE;
    private static final int MOST = Integer.MAX_VALUE;
    private static final Check CHECK = new Check();

    public static void main(String[] args) {
        nothingIsThere();
        nothingIsGranted();
        nearestP();
        nearestQ();
        farthestApart();
        lastCall();
        CHECK.end();
    }

    private static void nothingIsThere() {
        CHECK.says("No rows, no cells, no script, no text.");
        PrivateQueries x = new PrivateQueries(3, 7);
        for (int what = 0; what <= 5; what++) {
            CHECK.due("count(" + what + ")", 0, x.count(what));
        }
        CHECK.due("told(0)", PrivateQueries.NONE, x.told(0));
        CHECK.due("out(0)", PrivateQueries.NONE, x.out(0));
        CHECK.due("drop(0)", PrivateQueries.UNKNOWN, x.drop(0));
        CHECK.due("noise(0, 0)", PrivateQueries.SHORT, x.noise(0, 0));
        CHECK.due("question(0, 0)", PrivateQueries.UNKNOWN, x.question(0, 0));
        CHECK.due("wants(0)", PrivateQueries.STATE, x.wants(0));
        CHECK.due("run(0)", PrivateQueries.STATE, x.run(0));
        CHECK.due("print()", PrivateQueries.STATE, x.print());
        CHECK.due("read() of no text", -1000, x.read());
    }

    private static void nothingIsGranted() {
        CHECK.says("all 0 at first, nothing SPENT");
        PrivateQueries x = new PrivateQueries(3, 7);
        for (int whose = 0; whose <= 4; whose++) {
            CHECK.due("spent by " + whose, 0, x.ledger(whose, 0));
            CHECK.due("left to " + whose, 0, x.ledger(whose, 1));
            CHECK.due("the budget of " + whose + " was", 0, x.budget(whose, 1));
        }
    }

    private static void nearestP() {
        CHECK.says("P is p, or the nearest of 1 .. 999");
        isMade(1, 500, 1, 500);
        isMade(0, 500, 1, 500);
        isMade(-1, 500, 1, 500);
        isMade(LEAST, 500, 1, 500);
        isMade(2, 500, 2, 500);
        isMade(998, 1000, 998, 1000);
        isMade(999, 1000, 999, 1000);
        isMade(1000, 1000, 999, 1000);
        isMade(1001, 1000, 999, 1000);
        isMade(MOST, 1000, 999, 1000);
    }

    private static void nearestQ() {
        CHECK.says("Q is q, or the nearest of P + 1 .. 1000");
        isMade(5, 7, 5, 7);
        isMade(5, 6, 5, 6);
        isMade(5, 5, 5, 6);
        isMade(5, 4, 5, 6);
        isMade(5, 0, 5, 6);
        isMade(5, LEAST, 5, 6);
        isMade(5, 999, 5, 999);
        isMade(5, 1000, 5, 1000);
        isMade(5, 1001, 5, 1000);
        isMade(5, MOST, 5, 1000);
        isMade(999, 999, 999, 1000);
        isMade(999, 1001, 999, 1000);
    }

    private static void farthestApart() {
        CHECK.says("1 <= P < Q <= 1000");
        isMade(1, 2, 1, 2);
        isMade(1, 1000, 1, 1000);
        isMade(0, 0, 1, 2);
        isMade(1, 1, 1, 2);
        isMade(1000, 1001, 999, 1000);
        isMade(LEAST, LEAST, 1, 2);
        isMade(LEAST, MOST, 1, 1000);
        isMade(MOST, LEAST, 999, 1000);
        isMade(MOST, MOST, 999, 1000);
    }

    /** The share with TOP 0 tells P + Q, one with TOP 1 tells P Q, and the last cell tells Q (P + Q). */
    private static void isMade(int p, int q, int dueP, int dueQ) {
        String name = "of PrivateQueries(" + p + ", " + q + ")";
        PrivateQueries x = new PrivateQueries(p, q);
        CHECK.due("P + Q " + name, "" + (dueP + dueQ), Check.out(x, x.share(0, 0, 0)));
        CHECK.due("P Q " + name, "" + dueP * dueQ, Check.out(x, x.share(0, 1, 1)));
        int cells = dueQ * (dueP + dueQ);
        CHECK.due("the last cell " + name, 1, x.draws(cells - 1, PrivateQueries.NONE));
        CHECK.due("one more " + name, PrivateQueries.OUTSIDE, x.draws(cells, PrivateQueries.NONE));
    }

    private static void lastCall() {
        CHECK.says("An object is used for at most 512 calls after it has been made");
        PrivateQueries x = new PrivateQueries(1, 2);
        for (int call = 1; call <= 511; call++) {
            CHECK.due("call " + call, call * 2, x.draws(5, 0));
        }
        CHECK.due("call 512", -2, x.noise(1020, 1));
    }
}
