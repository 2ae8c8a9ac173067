import java.util.Arrays;

/** Promises 4 draws and 14 noise, with the document's part on noise. */
public final class TapeTest {
    private static final int LEAST = Integer.MIN_VALUE;
    private static final int MOST = Integer.MAX_VALUE;
    private static final int[][] PAIRS = {{1, 2}, {2, 5}, {1, 1000}, {999, 1000}, {500, 1000}};
    private static final Check CHECK = new Check();

    public static void main(String[] args) {
        twoCellsOrOne();
        newCellsComeBehind();
        leastAndLastCell();
        oneIsNoCell();
        threeThousandAtMost();
        notForAllOfThem();
        firstCells();
        cellsBehindTheFirst();
        oneBehindTheOther();
        blocksOfEachTop();
        blocksFromACell();
        nothingIsTaken();
        noiseOutside();
        noiseShort();
        CHECK.end();
    }

    private static void twoCellsOrOne() {
        CHECK.says("Two cells come behind the tape, one if second is NONE: how many it has.");
        PrivateQueries x = new PrivateQueries(1, 2);
        CHECK.due("two", 2, x.draws(0, 5));
        CHECK.due("one", 3, x.draws(5, PrivateQueries.NONE));
        CHECK.due("two that are alike", 5, x.draws(3, 3));
        CHECK.due("count(1)", 5, x.count(1));
    }

    private static void newCellsComeBehind() {
        CHECK.says("new ones come behind it");
        PrivateQueries x = new PrivateQueries(1, 2);
        Check.draw(x, 0, 5, 3, 0, 5, 2, 1);
        int[] noises = {0, -1, 1, 0, -1, 1, 0};
        for (int i = 0; i < noises.length; i++) {
            CHECK.due("noise(" + i + ", 0)", noises[i], x.noise(i, 0));
        }
    }

    private static void leastAndLastCell() {
        CHECK.says("THE TAPE has CELLS, each 0 .. Q (P + Q) - 1");
        for (int[] pair : PAIRS) {
            int cells = pair[1] * (pair[0] + pair[1]);
            PrivateQueries x = new PrivateQueries(pair[0], pair[1]);
            CHECK.due("the least and the last", 2, x.draws(0, cells - 1));
            CHECK.due("the last and the least", 4, x.draws(cells - 1, 0));
            CHECK.due("first one too large", PrivateQueries.OUTSIDE, x.draws(cells, 0));
            CHECK.due("second one too large", PrivateQueries.OUTSIDE, x.draws(0, cells));
            CHECK.due("first below 0", PrivateQueries.OUTSIDE, x.draws(-1, 0));
            CHECK.due("second below NONE", PrivateQueries.OUTSIDE, x.draws(0, -2));
        }
    }

    private static void oneIsNoCell() {
        CHECK.says("OUTSIDE (one is no cell)");
        PrivateQueries x = new PrivateQueries(1, 2);
        CHECK.due("draws(6, NONE)", PrivateQueries.OUTSIDE, x.draws(6, PrivateQueries.NONE));
        CHECK.due("draws(NONE, NONE)", PrivateQueries.OUTSIDE, x.draws(PrivateQueries.NONE, PrivateQueries.NONE));
        CHECK.due("draws(NONE, 0)", PrivateQueries.OUTSIDE, x.draws(PrivateQueries.NONE, 0));
        CHECK.due("draws(6, 6)", PrivateQueries.OUTSIDE, x.draws(6, 6));
        CHECK.due("draws(least, 0)", PrivateQueries.OUTSIDE, x.draws(LEAST, 0));
        CHECK.due("draws(0, least)", PrivateQueries.OUTSIDE, x.draws(0, LEAST));
        CHECK.due("draws(most, 0)", PrivateQueries.OUTSIDE, x.draws(MOST, 0));
        CHECK.due("draws(0, most)", PrivateQueries.OUTSIDE, x.draws(0, MOST));
        CHECK.due("none came, not even the good ones", 0, x.count(1));
    }

    /** In 512 calls no tape gets so long, but the limit is told all the same. */
    private static PrivateQueries almostFull() {
        PrivateQueries x = new PrivateQueries(1, 2);
        for (int i = 0; i < 1499; i++) {
            x.draws(1, 2);
        }
        return x;
    }

    private static void threeThousandAtMost() {
        CHECK.says("3000 at most");
        PrivateQueries x = almostFull();
        CHECK.due("two more", 3000, x.draws(3, 5));
        CHECK.due("the last one", -1, x.noise(2999, 0));
        CHECK.due("one too many", PrivateQueries.ROOM, x.draws(0, PrivateQueries.NONE));
        CHECK.due("two too many", PrivateQueries.ROOM, x.draws(0, 0));
        CHECK.due("count(1)", 3000, x.count(1));
    }

    private static void notForAllOfThem() {
        CHECK.says("ROOM (not for all of them)");
        PrivateQueries x = almostFull();
        CHECK.due("one", 2999, x.draws(5, PrivateQueries.NONE));
        CHECK.due("two, with room for one", PrivateQueries.ROOM, x.draws(0, 0));
        CHECK.due("none of the two came", 2999, x.count(1));
        CHECK.due("one", 3000, x.draws(3, PrivateQueries.NONE));
        CHECK.due("the one that came", 1, x.noise(2999, 0));
    }

    /** Noise of a block between others, which must not matter. */
    private static void isNoise(int p, int q, int want, int... block) {
        PrivateQueries x = new PrivateQueries(p, q);
        int last = q * (p + q) - 1;
        Check.draw(x, last, last, last);
        Check.draw(x, block);
        Check.draw(x, 0, 0, 0);
        CHECK.due("P " + p + ", Q " + q + ": noise of " + Arrays.toString(block), want, x.noise(3, block.length - 1));
    }

    private static void firstCells() {
        CHECK.says("its first cell v: Z is 0, if v is below Q (Q - P); above 0, if it is below Q (Q - P) + P Q; else below 0");
        for (int[] pair : PAIRS) {
            int p = pair[0];
            int q = pair[1];
            int above = q * (q - p);
            isNoise(p, q, 0, 0);
            isNoise(p, q, 0, above - 1);
            isNoise(p, q, 0, above - 1, 0, 0);
            isNoise(p, q, 1, above);
            isNoise(p, q, 3, above, 0, 0);
            isNoise(p, q, 1, above + p * q - 1);
            isNoise(p, q, 3, above + p * q - 1, 0, 0);
            isNoise(p, q, -1, above + p * q);
            isNoise(p, q, -3, above + p * q, 0, 0);
            isNoise(p, q, -1, q * (p + q) - 1);
            isNoise(p, q, -3, q * (p + q) - 1, 0, 0);
        }
    }

    private static void cellsBehindTheFirst() {
        CHECK.says("SIZE, if it is not 0: 1, and 1 for each cell behind the first one");
        for (int[] pair : PAIRS) {
            int p = pair[0];
            int q = pair[1];
            int above = q * (q - p);
            int below = above + p * q;
            int goesOn = p * (p + q) - 1;
            isNoise(p, q, 2, above, goesOn);
            isNoise(p, q, 1, above, goesOn + 1);
            isNoise(p, q, -2, below, goesOn);
            isNoise(p, q, -1, below, goesOn + 1);
            isNoise(p, q, 3, above, goesOn, goesOn, goesOn + 1);
            isNoise(p, q, 4, above, goesOn, goesOn, goesOn);
            isNoise(p, q, -4, below, goesOn, 0, goesOn);
        }
    }

    private static void oneBehindTheOther() {
        CHECK.says("as long as these one behind the other are below P (P + Q)");
        isNoise(2, 5, 1, 15, 14, 0, 0);
        isNoise(2, 5, 2, 15, 13, 14, 0, 0);
        isNoise(2, 5, -1, 25, 34, 0, 0);
        isNoise(2, 5, -3, 25, 0, 0, 14, 0, 0);
    }

    private static void blocksOfEachTop() {
        CHECK.says("A BLOCK of TOP + 1 cells tells a Z");
        for (int top = 0; top <= 30; top++) {
            int[] block = new int[top + 1];
            block[0] = 3;
            isNoise(1, 2, top + 1, block);
            block[0] = 4;
            isNoise(1, 2, -top - 1, block);
            block[top] = 3;
            isNoise(1, 2, top == 0 ? 1 : -top, block);
        }
    }

    private static void blocksFromACell() {
        CHECK.says("Z of the block of top + 1 cells that begins with a cell of the tape (0 the first one; nothing is taken)");
        PrivateQueries x = new PrivateQueries(1, 2);
        Check.draw(x, 5, 2, 2, 0);
        CHECK.due("noise(0, 3)", -4, x.noise(0, 3));
        CHECK.due("noise(0, 0)", -1, x.noise(0, 0));
        CHECK.due("noise(1, 2)", 3, x.noise(1, 2));
        CHECK.due("noise(1, 0)", 1, x.noise(1, 0));
        CHECK.due("noise(3, 0)", 0, x.noise(3, 0));
    }

    private static void nothingIsTaken() {
        CHECK.says("nothing is taken");
        PrivateQueries x = new PrivateQueries(1, 2);
        Check.draw(x, 2, 0, 5);
        CHECK.due("noise(0, 2)", 2, x.noise(0, 2));
        CHECK.due("noise(0, 2) again", 2, x.noise(0, 2));
        CHECK.due("count(1)", 3, x.count(1));
    }

    private static void noiseOutside() {
        CHECK.says("OUTSIDE (top 0 .. 30, or from below 0)");
        PrivateQueries x = new PrivateQueries(1, 2);
        Check.drawZeros(x, 40);
        CHECK.due("noise(0, -1)", PrivateQueries.OUTSIDE, x.noise(0, -1));
        CHECK.due("noise(0, 0)", 0, x.noise(0, 0));
        CHECK.due("noise(0, 30)", 0, x.noise(0, 30));
        CHECK.due("noise(0, 31)", PrivateQueries.OUTSIDE, x.noise(0, 31));
        CHECK.due("noise(0, least)", PrivateQueries.OUTSIDE, x.noise(0, LEAST));
        CHECK.due("noise(0, most)", PrivateQueries.OUTSIDE, x.noise(0, MOST));
        CHECK.due("noise(-1, 0)", PrivateQueries.OUTSIDE, x.noise(-1, 0));
        CHECK.due("noise(-1, 30)", PrivateQueries.OUTSIDE, x.noise(-1, 30));
        CHECK.due("noise(least, 0)", PrivateQueries.OUTSIDE, x.noise(LEAST, 0));
    }

    private static void noiseShort() {
        CHECK.says("SHORT (they are not all there)");
        PrivateQueries x = new PrivateQueries(1, 2);
        CHECK.due("noise(0, 0) of no cells", PrivateQueries.SHORT, x.noise(0, 0));
        Check.draw(x, 5, 5, 0);
        CHECK.due("noise(0, 2)", -1, x.noise(0, 2));
        CHECK.due("noise(0, 3)", PrivateQueries.SHORT, x.noise(0, 3));
        CHECK.due("noise(1, 1)", -2, x.noise(1, 1));
        CHECK.due("noise(1, 2)", PrivateQueries.SHORT, x.noise(1, 2));
        CHECK.due("noise(2, 0)", 0, x.noise(2, 0));
        CHECK.due("noise(3, 0)", PrivateQueries.SHORT, x.noise(3, 0));
        CHECK.due("noise(0, 30)", PrivateQueries.SHORT, x.noise(0, 30));
        CHECK.due("noise(most, 0)", PrivateQueries.SHORT, x.noise(MOST, 0));
        CHECK.due("noise(most, 30)", PrivateQueries.SHORT, x.noise(MOST, 30));
    }
}
