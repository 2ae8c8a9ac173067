import java.math.BigInteger;

/** Promises 16 share and 18 within. */
public final class ShareTest {
    private static final int LEAST = Integer.MIN_VALUE;
    private static final int MOST = Integer.MAX_VALUE;
    private static final int[][] PAIRS = {{1, 2}, {7, 11}, {999, 1000}, {1, 1000}};
    private static final Check CHECK = new Check();

    public static void main(String[] args) {
        sharesCountBlocks(1, 2, 0);
        sharesCountBlocks(1, 2, 1);
        sharesCountBlocks(1, 2, 2);
        sharesCountBlocks(1, 3, 2);
        sharesCountBlocks(2, 3, 1);
        sharesMakeUpTheWhole();
        shortestAndLongest();
        topOfAShare();
        numbersOfAShare();
        withinHolds(1, 2, 5);
        withinHolds(999, 1000, 3);
        withinAtTheTop();
        topOfWithin();
        numbersOfWithin();
        CHECK.end();
    }

    /** All blocks are laid on a tape one by one, and what they tell is counted. */
    private static void sharesCountBlocks(int p, int q, int top) {
        CHECK.says("of all blocks of cells there are those by which a number A (0 .. TOP) is told as O (0 .. TOP)");
        int cells = q * (p + q);
        int blocks = (int) Math.pow(cells, top + 1);
        int[][] shares = new int[top + 1][top + 1];
        for (int block = 0; block < blocks; block++) {
            PrivateQueries x = new PrivateQueries(p, q);
            for (int i = 0, rest = block; i <= top; i++, rest /= cells) {
                x.draws(rest % cells, PrivateQueries.NONE);
            }
            int z = x.noise(0, top);
            for (int a = 0; a <= top; a++) {
                shares[a][Math.max(0, Math.min(top, a + z))]++;
            }
        }
        long whole = (p + q) * (long) Math.pow(q, top);
        PrivateQueries x = new PrivateQueries(p, q);
        for (int a = 0; a <= top; a++) {
            for (int o = 0; o <= top; o++) {
                CHECK.due("P " + p + ", Q " + q + ": share(" + a + ", " + o + ", " + top + ")",
                    "" + shares[a][o] * whole / blocks, Check.out(x, x.share(a, o, top)));
            }
        }
    }

    private static BigInteger share(int p, int q, int a, int o, int top) {
        PrivateQueries x = new PrivateQueries(p, q);
        return new BigInteger(Check.out(x, x.share(a, o, top)));
    }

    private static void sharesMakeUpTheWhole() {
        CHECK.says("they are N / ((P + Q) Q^TOP) of all, N being a whole number: THE SHARE of A and O");
        for (int[] pair : PAIRS) {
            for (int top : new int[] {0, 1, 2, 3, 30}) {
                BigInteger whole = BigInteger.valueOf(pair[0] + pair[1]).multiply(BigInteger.valueOf(pair[1]).pow(top));
                for (int a : new int[] {0, top / 2, top}) {
                    BigInteger sum = BigInteger.ZERO;
                    for (int o = 0; o <= top; o++) {
                        sum = sum.add(share(pair[0], pair[1], a, o, top));
                    }
                    CHECK.due("all shares of " + a + ", TOP " + top, whole.toString(), sum.toString());
                }
            }
        }
    }

    private static void isShare(PrivateQueries x, int a, int o, int top, BigInteger want) {
        String name = "share(" + a + ", " + o + ", " + top + ")";
        String digits = want.toString();
        CHECK.due(name, digits.length(), x.share(a, o, top));
        CHECK.due("digits of " + name, digits, Check.out(x, digits.length()));
        CHECK.due("behind " + name, PrivateQueries.NONE, x.out(digits.length()));
    }

    private static void shortestAndLongest() {
        CHECK.says("as digits, without zeros in front (0 is one), into OUT: how many");
        isShare(new PrivateQueries(1, 2), 0, 0, 0, BigInteger.valueOf(3));
        isShare(new PrivateQueries(1, 2), 1, 1, 2, BigInteger.valueOf(4));
        isShare(new PrivateQueries(4, 6), 0, 0, 0, BigInteger.TEN);
        BigInteger thousand = BigInteger.valueOf(1000);
        PrivateQueries x = new PrivateQueries(1, 1000);
        isShare(x, 0, 0, 0, BigInteger.valueOf(1001));
        isShare(x, 30, 30, 30, thousand.pow(31));
        isShare(x, 0, 0, 30, thousand.pow(31));
        isShare(x, 0, 30, 30, thousand);
        isShare(x, 30, 0, 30, thousand);
        isShare(x, 15, 15, 30, thousand.pow(30).multiply(BigInteger.valueOf(999)));
        PrivateQueries y = new PrivateQueries(999, 1000);
        isShare(y, 16, 1, 30, BigInteger.valueOf(999).pow(15).multiply(thousand.pow(15)));
        isShare(y, 1, 29, 30, BigInteger.valueOf(999).pow(28).multiply(thousand.pow(2)));
        isShare(y, 0, 30, 30, BigInteger.valueOf(999).pow(30).multiply(thousand));
    }

    private static void topOfAShare() {
        CHECK.says("OUTSIDE (top 0 .. 30; a, o 0 .. top)");
        PrivateQueries x = new PrivateQueries(1, 2);
        CHECK.due("share(0, 0, -1)", PrivateQueries.OUTSIDE, x.share(0, 0, -1));
        CHECK.due("share(0, 0, 0)", 1, x.share(0, 0, 0));
        CHECK.due("share(0, 0, 30)", 10, x.share(0, 0, 30));
        CHECK.due("share(0, 0, 31)", PrivateQueries.OUTSIDE, x.share(0, 0, 31));
        CHECK.due("share(0, 0, least)", PrivateQueries.OUTSIDE, x.share(0, 0, LEAST));
        CHECK.due("share(0, 0, most)", PrivateQueries.OUTSIDE, x.share(0, 0, MOST));
        CHECK.due("share(most, most, most)", PrivateQueries.OUTSIDE, x.share(MOST, MOST, MOST));
    }

    private static void numbersOfAShare() {
        CHECK.says("a, o 0 .. top");
        PrivateQueries x = new PrivateQueries(1, 2);
        for (int top : new int[] {0, 1, 7, 30}) {
            CHECK.due("a 0, o top", true, x.share(0, top, top) > 0);
            CHECK.due("a top, o 0", true, x.share(top, 0, top) > 0);
            for (int wrong : new int[] {-1, top + 1, LEAST, MOST}) {
                CHECK.due("a " + wrong + " of " + top, PrivateQueries.OUTSIDE, x.share(wrong, 0, top));
                CHECK.due("o " + wrong + " of " + top, PrivateQueries.OUTSIDE, x.share(0, wrong, top));
            }
        }
    }

    private static void withinHolds(int p, int q, int top) {
        CHECK.says("Whether for all O the share of a and O, times P as often as a and b differ, is at most that of b and O");
        for (int a = 0; a <= top; a++) {
            for (int b = 0; b <= top; b++) {
                boolean holds = true;
                int apart = Math.abs(a - b);
                for (int o = 0; o <= top; o++) {
                    BigInteger left = share(p, q, a, o, top).multiply(BigInteger.valueOf(p).pow(apart));
                    BigInteger right = share(p, q, b, o, top).multiply(BigInteger.valueOf(q).pow(apart));
                    holds &= left.compareTo(right) <= 0;
                }
                CHECK.due("by the shares of " + a + " and " + b, true, holds);
                CHECK.due("within(" + a + ", " + b + ", " + top + ")", holds, new PrivateQueries(p, q).within(a, b, top));
            }
        }
    }

    private static void withinAtTheTop() {
        CHECK.says("(it is always so)");
        for (int[] pair : PAIRS) {
            PrivateQueries x = new PrivateQueries(pair[0], pair[1]);
            CHECK.due("within(0, 0, 0)", true, x.within(0, 0, 0));
            CHECK.due("within(0, 30, 30)", true, x.within(0, 30, 30));
            CHECK.due("within(30, 0, 30)", true, x.within(30, 0, 30));
            CHECK.due("within(30, 30, 30)", true, x.within(30, 30, 30));
            CHECK.due("within(15, 16, 30)", true, x.within(15, 16, 30));
        }
    }

    private static void topOfWithin() {
        CHECK.says("false when top is not 0 .. 30");
        PrivateQueries x = new PrivateQueries(3, 4);
        CHECK.due("within(0, 0, -1)", false, x.within(0, 0, -1));
        CHECK.due("within(-1, -1, -1)", false, x.within(-1, -1, -1));
        CHECK.due("within(0, 0, 0)", true, x.within(0, 0, 0));
        CHECK.due("within(0, 0, 30)", true, x.within(0, 0, 30));
        CHECK.due("within(0, 0, 31)", false, x.within(0, 0, 31));
        CHECK.due("within(0, 0, least)", false, x.within(0, 0, LEAST));
        CHECK.due("within(most, most, most)", false, x.within(MOST, MOST, MOST));
    }

    private static void numbersOfWithin() {
        CHECK.says("or one is not 0 .. top");
        PrivateQueries x = new PrivateQueries(3, 4);
        for (int top : new int[] {0, 1, 7, 30}) {
            CHECK.due("a 0, b top", true, x.within(0, top, top));
            CHECK.due("a top, b 0", true, x.within(top, 0, top));
            for (int wrong : new int[] {-1, top + 1, LEAST, MOST}) {
                CHECK.due("a " + wrong + " of " + top, false, x.within(wrong, 0, top));
                CHECK.due("b " + wrong + " of " + top, false, x.within(0, wrong, top));
                CHECK.due("both " + wrong + " of " + top, false, x.within(wrong, wrong, top));
            }
        }
    }
}
