import java.util.Arrays;

/** Promises 1 (P and Q), 4 draws and 14 noise. */
public final class TapeTest {
    private static final int LEAST = Integer.MIN_VALUE;
    private static final int MOST = Integer.MAX_VALUE;
    private static final Check CHECK = new Check();

    public static void main(String[] args) {
        numbersAreBroughtToTheirRanges();
        drawsOneOrTwo();
        drawsRefusesWhatIsNoCell();
        threeThousandAtMost();
        noiseOfBlocks();
        noiseAtTheLimits();
        noiseOutsideAndShort();
        noiseTakesNothing();
        CHECK.end();
    }

    private static void numbersAreBroughtToTheirRanges() {
        isMade(1, 2, 1, 2);
        isMade(999, 1000, 999, 1000);
        isMade(0, 0, 1, 2);
        isMade(-5, -5, 1, 2);
        isMade(LEAST, LEAST, 1, 2);
        isMade(MOST, MOST, 999, 1000);
        isMade(1000, 1000, 999, 1000);
        isMade(5, 5, 5, 6);
        isMade(5, 4, 5, 6);
        isMade(5, 6, 5, 6);
        isMade(5, 1001, 5, 1000);
        isMade(1, 1000, 1, 1000);
        isMade(MOST, LEAST, 999, 1000);
        isMade(LEAST, MOST, 1, 1000);
    }

    /** The shares with TOP 0 and TOP 1 tell P + Q and P, the cells tell Q. */
    private static void isMade(int p, int q, int dueP, int dueQ) {
        String name = "PrivateQueries(" + p + ", " + q + ")";
        PrivateQueries x = new PrivateQueries(p, q);
        CHECK.due(name + " P + Q", "" + (dueP + dueQ), Check.out(x, x.share(0, 0, 0)));
        CHECK.due(name + " P Q", "" + dueP * dueQ, Check.out(x, x.share(0, 1, 1)));
        int cells = dueQ * (dueP + dueQ);
        CHECK.due(name + " last cell", 1, x.draws(cells - 1, PrivateQueries.NONE));
        CHECK.due(name + " no cell", PrivateQueries.OUTSIDE, x.draws(cells, PrivateQueries.NONE));
    }

    private static void drawsOneOrTwo() {
        PrivateQueries x = new PrivateQueries(1, 2);
        CHECK.due("two", 2, x.draws(0, 5));
        CHECK.due("one", 3, x.draws(5, PrivateQueries.NONE));
        CHECK.due("two", 5, x.draws(3, 2));
        CHECK.due("cells", 5, x.count(1));
        int[] noises = {0, -1, -1, 1, 1};
        Check.draw(x, 2);
        for (int i = 0; i < noises.length; i++) {
            CHECK.due("cell " + i + " in its order", noises[i], x.noise(i, 0));
        }
    }

    private static void drawsRefusesWhatIsNoCell() {
        PrivateQueries x = new PrivateQueries(1, 2);
        CHECK.due("draws(6, 0)", PrivateQueries.OUTSIDE, x.draws(6, 0));
        CHECK.due("draws(0, 6)", PrivateQueries.OUTSIDE, x.draws(0, 6));
        CHECK.due("draws(0, -2)", PrivateQueries.OUTSIDE, x.draws(0, -2));
        CHECK.due("draws(-1, 0)", PrivateQueries.OUTSIDE, x.draws(-1, 0));
        CHECK.due("draws(-1, -1)", PrivateQueries.OUTSIDE, x.draws(-1, -1));
        CHECK.due("draws(least, most)", PrivateQueries.OUTSIDE, x.draws(LEAST, MOST));
        CHECK.due("nothing came", 0, x.count(1));
        for (int i = 0; i < 500; i++) {
            x.draws(1, 2);
        }
        CHECK.due("a thousand", 1000, x.count(1));
        CHECK.due("noise(999, 0)", 1, x.noise(999, 0));
        CHECK.due("noise(1000, 0)", PrivateQueries.SHORT, x.noise(1000, 0));
    }

    /** No promise holds so many calls of one object, but the tape's limit is told all the same. */
    private static void threeThousandAtMost() {
        PrivateQueries x = new PrivateQueries(1, 2);
        for (int i = 0; i < 1499; i++) {
            x.draws(1, 2);
        }
        CHECK.due("2999", 2999, x.draws(5, PrivateQueries.NONE));
        CHECK.due("two more", PrivateQueries.ROOM, x.draws(1, 1));
        CHECK.due("outside comes before", PrivateQueries.OUTSIDE, x.draws(1, 6));
        CHECK.due("3000", 3000, x.draws(5, PrivateQueries.NONE));
        CHECK.due("one more", PrivateQueries.ROOM, x.draws(1, PrivateQueries.NONE));
        CHECK.due("the last one", -1, x.noise(2999, 0));
    }

    /** P = 2, Q = 5: 0 below 15, above 0 below 25, else below 0; a size goes on below 14. */
    private static void noiseOfBlocks() {
        isNoise(0, 0, 0);
        isNoise(0, 14, 0, 0, 0);
        isNoise(1, 15, 14, 0, 0);
        isNoise(1, 24, 14, 0, 0);
        isNoise(-1, 25, 14, 0, 0);
        isNoise(-1, 34, 34, 0, 0);
        isNoise(2, 15, 13, 14, 0);
        isNoise(3, 15, 13, 0, 20, 0, 0);
        isNoise(4, 24, 0, 0, 0);
        isNoise(-4, 25, 13, 13, 13);
        isNoise(1, 20);
        isNoise(-1, 30);
        isNoise(0, 13);
        isNoise(2, 20, 0);
        isNoise(-2, 30, 0);
    }

    private static void isNoise(int want, int... block) {
        PrivateQueries x = new PrivateQueries(2, 5);
        Check.draw(x, 20, 20, 20);
        Check.draw(x, block);
        Check.draw(x, 0, 0, 0);
        CHECK.due("noise of " + Arrays.toString(block), want, x.noise(3, block.length - 1));
    }

    private static void noiseAtTheLimits() {
        PrivateQueries x = new PrivateQueries(999, 1000);
        Check.draw(x, 1998999);
        for (int i = 0; i < 30; i++) {
            Check.draw(x, 999 * 1999 - 1);
        }
        CHECK.due("the longest one", -31, x.noise(0, 30));
        CHECK.due("from 2", -29, x.noise(2, 28));
        CHECK.due("one too long", PrivateQueries.SHORT, x.noise(1, 30));
    }

    private static void noiseOutsideAndShort() {
        PrivateQueries x = new PrivateQueries(1, 2);
        Check.draw(x, 5, 5, 0);
        CHECK.due("noise(0, -1)", PrivateQueries.OUTSIDE, x.noise(0, -1));
        CHECK.due("noise(0, 31)", PrivateQueries.OUTSIDE, x.noise(0, 31));
        CHECK.due("noise(0, most)", PrivateQueries.OUTSIDE, x.noise(0, MOST));
        CHECK.due("noise(-1, 0)", PrivateQueries.OUTSIDE, x.noise(-1, 0));
        CHECK.due("noise(-1, 30)", PrivateQueries.OUTSIDE, x.noise(-1, 30));
        CHECK.due("noise(least, 0)", PrivateQueries.OUTSIDE, x.noise(LEAST, 0));
        CHECK.due("noise(0, 3)", PrivateQueries.SHORT, x.noise(0, 3));
        CHECK.due("noise(3, 0)", PrivateQueries.SHORT, x.noise(3, 0));
        CHECK.due("noise(most, 30)", PrivateQueries.SHORT, x.noise(MOST, 30));
        CHECK.due("noise(most, 31)", PrivateQueries.OUTSIDE, x.noise(MOST, 31));
        CHECK.due("noise(0, 2)", -1, x.noise(0, 2));
        CHECK.due("noise(1, 1)", -2, x.noise(1, 1));
    }

    private static void noiseTakesNothing() {
        PrivateQueries x = new PrivateQueries(1, 2);
        Check.draw(x, 2, 0, 5);
        CHECK.due("noise(0, 2)", 2, x.noise(0, 2));
        CHECK.due("noise(0, 2) again", 2, x.noise(0, 2));
        CHECK.due("cells", 3, x.count(1));
    }
}
