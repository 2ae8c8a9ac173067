/** Promise 8: type. */
public final class TypeTest {
    private static final long EIGHT = 0x6161616161616161L;
    private static final Check CHECK = new Check();

    public static void main(String[] args) {
        comesBehindTheText();
        highestByteFirst();
        lowestBytesAlone();
        oneToEight();
        bytesOfSigns();
        twoThousand();
        CHECK.end();
    }

    private static void comesBehindTheText() {
        CHECK.says("come behind the text: how many it has");
        PrivateQueries x = new PrivateQueries(1, 2);
        CHECK.due("three", 3, x.type(0x636f75L, 3));
        CHECK.due("eight more", 11, x.type(0x6e7420696e20333bL, 8));
        CHECK.due("count(2)", 11, x.count(2));
        CHECK.due("'count in 3;'", 1, x.read());
        CHECK.due("from the start again", 1, x.type('a', 1));
    }

    private static void highestByteFirst() {
        CHECK.says("The lowest n bytes of signs, the highest of them first");
        PrivateQueries x = new PrivateQueries(1, 2);
        x.type(0x636f756e7420696eL, 8);
        x.type(0x20333bL, 3);
        x.read();
        CHECK.due("print()", "count in 3 ;", Check.out(x, x.print()));
    }

    private static void lowestBytesAlone() {
        CHECK.says("The lowest n bytes of signs");
        PrivateQueries x = new PrivateQueries(1, 2);
        CHECK.due("no sign above the one", 1, x.type(0xffffffffffffff41L, 1));
        CHECK.due("no sign above the seven", 8, x.type(0x0061616161616161L, 7));
        CHECK.due("the byte above is not looked at", 10, x.type(0x1f6161L, 2));
    }

    private static void oneToEight() {
        CHECK.says("OUTSIDE (n 1 .. 8");
        PrivateQueries x = new PrivateQueries(1, 2);
        CHECK.due("n 0", PrivateQueries.OUTSIDE, x.type(EIGHT, 0));
        CHECK.due("n 1", 1, x.type(EIGHT, 1));
        CHECK.due("n 8", 9, x.type(EIGHT, 8));
        CHECK.due("n 9", PrivateQueries.OUTSIDE, x.type(EIGHT, 9));
        CHECK.due("n -1", PrivateQueries.OUTSIDE, x.type(EIGHT, -1));
        CHECK.due("n least", PrivateQueries.OUTSIDE, x.type(EIGHT, Integer.MIN_VALUE));
        CHECK.due("n most", PrivateQueries.OUTSIDE, x.type(EIGHT, Integer.MAX_VALUE));
        CHECK.due("count(2)", 9, x.count(2));
    }

    private static void bytesOfSigns() {
        CHECK.says("a byte that is not 32 .. 126");
        PrivateQueries x = new PrivateQueries(1, 2);
        CHECK.due("byte 32", 1, x.type(32, 1));
        CHECK.due("byte 126", 2, x.type(126, 1));
        CHECK.due("both", 4, x.type(32 << 8 | 126, 2));
        for (long one : new long[] {0, 10, 31, 127, 128, 255}) {
            for (int place = 0; place < 8; place++) {
                long signs = EIGHT & ~(255L << 8 * place) | one << 8 * place;
                CHECK.due("byte " + one + " at " + place, PrivateQueries.OUTSIDE, x.type(signs, 8));
            }
        }
        CHECK.due("none of them came", 4, x.count(2));
    }

    private static void twoThousand() {
        CHECK.says("ROOM (2000)");
        PrivateQueries x = new PrivateQueries(1, 2);
        Check.type(x, " ".repeat(1992));
        CHECK.due("to 1999", 1999, x.type(0x20202020202020L, 7));
        CHECK.due("two more", PrivateQueries.ROOM, x.type(0x2020L, 2));
        CHECK.due("neither of them came", 1999, x.count(2));
        CHECK.due("the last one", 2000, x.type(0x20L, 1));
        CHECK.due("one more", PrivateQueries.ROOM, x.type(0x20L, 1));
        CHECK.due("count(2)", 2000, x.count(2));
        x.read();
        Check.type(x, " ".repeat(1992));
        CHECK.due("eight at once", 2000, x.type(0x2020202020202020L, 8));
        CHECK.due("eight more", PrivateQueries.ROOM, x.type(0x2020202020202020L, 8));
        CHECK.due("all of them are read", -3000, x.read());
    }
}
