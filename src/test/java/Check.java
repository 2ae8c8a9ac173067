import java.nio.charset.StandardCharsets;

/** Compares answers with those that are due, and ends a test with exit code 1 if one differed. */
final class Check {
    private int calls;
    private int wrong;

    void due(String call, long want, long got) {
        calls++;
        if (got != want) {
            wrong++;
            System.out.println(call + " answered " + got + ", due is " + want);
        }
    }

    void due(String call, String want, String got) {
        calls++;
        if (!got.equals(want)) {
            wrong++;
            System.out.println(call + " answered '" + got + "', due is '" + want + "'");
        }
    }

    void due(String call, boolean want, boolean got) {
        due(call, want ? 1 : 0, got ? 1 : 0);
    }

    void end() {
        if (wrong != 0) {
            System.out.println(wrong + " of " + calls + " answers are not as due");
            System.exit(1);
        }
    }

    /** Types a text, eight signs a call. */
    static void type(PrivateQueries x, String text) {
        byte[] signs = text.getBytes(StandardCharsets.ISO_8859_1);
        for (int from = 0; from < signs.length; from += 8) {
            int n = Math.min(8, signs.length - from);
            x.type(pack(signs, from, n), n);
        }
    }

    static long pack(byte[] signs, int from, int n) {
        long packed = 0;
        for (int i = 0; i < n; i++) {
            packed = packed << 8 | signs[from + i] & 255;
        }
        return packed;
    }

    static int read(PrivateQueries x, String text) {
        type(x, text);
        return x.read();
    }

    static String out(PrivateQueries x, int size) {
        StringBuilder all = new StringBuilder();
        for (int i = 0; i < size; i++) {
            all.append((char) x.out(i));
        }
        return all.toString();
    }

    static void draw(PrivateQueries x, int... cells) {
        for (int i = 0; i < cells.length; i += 2) {
            x.draws(cells[i], i + 1 < cells.length ? cells[i + 1] : PrivateQueries.NONE);
        }
    }

    static String repeat(String part, int times) {
        return part.repeat(times);
    }
}
