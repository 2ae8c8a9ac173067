import java.math.BigInteger;

/** Promises 16 share, 17 out and 18 within. */
public final class ShareTest {
    private static final Check CHECK = new Check();

    public static void main(String[] args) {
        sharesCountBlocks(1, 2, 2);
        sharesCountBlocks(1, 3, 2);
        sharesCountBlocks(2, 3, 1);
        sharesMakeUpTheWhole(1, 2);
        sharesMakeUpTheWhole(7, 11);
        sharesMakeUpTheWhole(999, 1000);
        sharesMakeUpTheWhole(1, 1000);
        withinHolds(1, 2, 5);
        withinHolds(999, 1000, 3);
        withinAtTheLimits();
        longestShare();
        wrongNumbers();
        outStays();
        CHECK.end();
    }

    /** All blocks are laid on a tape one by one, and their noise is counted. */
    private static void sharesCountBlocks(int p, int q, int top) {
        int cells = q * (p + q);
        int blocks = (int) Math.pow(cells, top + 1);
        int[][] shares = new int[top + 1][top + 1];
        for (int block = 0; block < blocks; block++) {
            PrivateQueries x = new PrivateQueries(p, q);
            for (int i = 0, rest = block; i <= top; i++, rest /= cells) {
                x.draws(rest % cells, PrivateQueries.NONE);
            }
            int z = x.noise(0, top);
            for (int a = 0; a <= top; a++) {
                shares[a][Math.max(0, Math.min(top, a + z))]++;
            }
        }
        long whole = (p + q) * (long) Math.pow(q, top);
        PrivateQueries x = new PrivateQueries(p, q);
        for (int a = 0; a <= top; a++) {
            for (int o = 0; o <= top; o++) {
                CHECK.due("share(" + a + ", " + o + ", " + top + ") of P " + p + ", Q " + q,
                    "" + shares[a][o] * whole / blocks, Check.out(x, x.share(a, o, top)));
            }
        }
    }

    private static void sharesMakeUpTheWhole(int p, int q) {
        for (int top : new int[] {0, 1, 2, 3, 30}) {
            BigInteger whole = BigInteger.valueOf(p + q).multiply(BigInteger.valueOf(q).pow(top));
            for (int a : new int[] {0, top / 2, top}) {
                BigInteger sum = BigInteger.ZERO;
                for (int o = 0; o <= top; o++) {
                    sum = sum.add(share(p, q, a, o, top));
                }
                CHECK.due("all shares of " + a + ", TOP " + top, whole.toString(), sum.toString());
            }
        }
    }

    private static BigInteger share(int p, int q, int a, int o, int top) {
        PrivateQueries x = new PrivateQueries(p, q);
        return new BigInteger(Check.out(x, x.share(a, o, top)));
    }

    private static void withinHolds(int p, int q, int top) {
        for (int a = 0; a <= top; a++) {
            for (int b = 0; b <= top; b++) {
                boolean holds = true;
                int apart = Math.abs(a - b);
                for (int o = 0; o <= top; o++) {
                    BigInteger left = share(p, q, a, o, top).multiply(BigInteger.valueOf(p).pow(apart));
                    BigInteger right = share(p, q, b, o, top).multiply(BigInteger.valueOf(q).pow(apart));
                    holds &= left.compareTo(right) <= 0;
                }
                CHECK.due("by the shares of " + a + " and " + b, true, holds);
                CHECK.due("within(" + a + ", " + b + ", " + top + ")", holds, new PrivateQueries(p, q).within(a, b, top));
            }
        }
    }

    private static void withinAtTheLimits() {
        PrivateQueries x = new PrivateQueries(3, 4);
        CHECK.due("within(0, 0, 0)", true, x.within(0, 0, 0));
        CHECK.due("within(0, 30, 30)", true, x.within(0, 30, 30));
        CHECK.due("within(30, 0, 30)", true, x.within(30, 0, 30));
        CHECK.due("within(0, 0, 31)", false, x.within(0, 0, 31));
        CHECK.due("within(0, 0, -1)", false, x.within(0, 0, -1));
        CHECK.due("within(1, 0, 0)", false, x.within(1, 0, 0));
        CHECK.due("within(0, 1, 0)", false, x.within(0, 1, 0));
        CHECK.due("within(-1, 0, 5)", false, x.within(-1, 0, 5));
        CHECK.due("within(0, -1, 5)", false, x.within(0, -1, 5));
        CHECK.due("within(6, 5, 5)", false, x.within(6, 5, 5));
        CHECK.due("within(most, most, most)", false,
            x.within(Integer.MAX_VALUE, Integer.MAX_VALUE, Integer.MAX_VALUE));
    }

    private static void longestShare() {
        PrivateQueries x = new PrivateQueries(1, 1000);
        CHECK.due("share(30, 30, 30)", 94, x.share(30, 30, 30));
        CHECK.due("its digits", "1" + "0".repeat(93), Check.out(x, 94));
        CHECK.due("share(0, 30, 30)", 4, x.share(0, 30, 30));
        CHECK.due("its digits", "1000", Check.out(x, 4));
        CHECK.due("behind them", PrivateQueries.NONE, x.out(4));
        PrivateQueries y = new PrivateQueries(999, 1000);
        CHECK.due("999^15 times 1000^15", BigInteger.valueOf(999).pow(15).multiply(BigInteger.valueOf(1000).pow(15)).toString(),
            Check.out(y, y.share(16, 1, 30)));
    }

    private static void wrongNumbers() {
        PrivateQueries x = new PrivateQueries(1, 2);
        CHECK.due("share(0, 0, 0)", 1, x.share(0, 0, 0));
        CHECK.due("share(0, 0, 31)", PrivateQueries.OUTSIDE, x.share(0, 0, 31));
        CHECK.due("share(0, 0, -1)", PrivateQueries.OUTSIDE, x.share(0, 0, -1));
        CHECK.due("share(1, 0, 0)", PrivateQueries.OUTSIDE, x.share(1, 0, 0));
        CHECK.due("share(0, 1, 0)", PrivateQueries.OUTSIDE, x.share(0, 1, 0));
        CHECK.due("share(-1, 0, 30)", PrivateQueries.OUTSIDE, x.share(-1, 0, 30));
        CHECK.due("share(0, -1, 30)", PrivateQueries.OUTSIDE, x.share(0, -1, 30));
        CHECK.due("share(31, 0, 30)", PrivateQueries.OUTSIDE, x.share(31, 0, 30));
        CHECK.due("share(0, 31, 30)", PrivateQueries.OUTSIDE, x.share(0, 31, 30));
        CHECK.due("share(most, most, most)", PrivateQueries.OUTSIDE,
            x.share(Integer.MAX_VALUE, Integer.MAX_VALUE, Integer.MAX_VALUE));
        CHECK.due("what was there before", '3', x.out(0));
    }

    /** OUT is as the latest print or share left it; refusals and other calls leave it. */
    private static void outStays() {
        PrivateQueries x = new PrivateQueries(1, 2);
        x.share(0, 0, 30);
        CHECK.due("print() without a script", PrivateQueries.STATE, x.print());
        CHECK.due("2^31", "2147483648", Check.out(x, 10));
        Check.read(x, "count in 3;");
        CHECK.due("reading leaves it", '2', x.out(0));
        CHECK.due("print()", 12, x.print());
        CHECK.due("the script", "count in 3 ;", Check.out(x, 12));
        CHECK.due("out(12)", PrivateQueries.NONE, x.out(12));
        CHECK.due("out(-1)", PrivateQueries.NONE, x.out(-1));
        CHECK.due("out(least)", PrivateQueries.NONE, x.out(Integer.MIN_VALUE));
        CHECK.due("out(most)", PrivateQueries.NONE, x.out(Integer.MAX_VALUE));
        CHECK.due("a shorter one", 1, x.share(0, 0, 0));
        CHECK.due("out(1)", PrivateQueries.NONE, x.out(1));
    }
}
