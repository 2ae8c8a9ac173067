import java.nio.charset.StandardCharsets;

/** Compares answers with those that are due, and ends a test with exit code 1 if one differed. */
final class Check {
    private int calls;
    private int wrong;
    private String sentence = "";

    /** The document's words that the checks from here on are about. */
    void says(String words) {
        sentence = words;
    }

    void due(String call, long want, long got) {
        compare(call, "" + want, "" + got);
    }

    void due(String call, boolean want, boolean got) {
        compare(call, "" + want, "" + got);
    }

    void due(String call, String want, String got) {
        compare(call, "'" + want + "'", "'" + got + "'");
    }

    private void compare(String call, String want, String got) {
        calls++;
        if (!got.equals(want)) {
            wrong++;
            System.out.println((sentence.isEmpty() ? "" : "\"" + sentence + "\": ")
                + call + " answered " + got + ", due is " + want);
        }
    }

    void end() {
        if (wrong != 0) {
            System.out.println(wrong + " of " + calls + " answers are not as due");
            System.exit(1);
        }
    }

    /** Types a text, eight signs a call. */
    static void type(PrivateQueries x, String text) {
        byte[] signs = text.getBytes(StandardCharsets.ISO_8859_1);
        for (int from = 0; from < signs.length; from += 8) {
            int n = Math.min(8, signs.length - from);
            x.type(pack(signs, from, n), n);
        }
    }

    static long pack(byte[] signs, int from, int n) {
        long packed = 0;
        for (int i = 0; i < n; i++) {
            packed = packed << 8 | signs[from + i] & 255;
        }
        return packed;
    }

    static int read(PrivateQueries x, String text) {
        type(x, text);
        return x.read();
    }

    static void draw(PrivateQueries x, int... cells) {
        for (int i = 0; i < cells.length; i += 2) {
            x.draws(cells[i], i + 1 < cells.length ? cells[i + 1] : PrivateQueries.NONE);
        }
    }

    /** Puts so many cells of no noise behind the tape. */
    static void drawZeros(PrivateQueries x, int howMany) {
        draw(x, new int[howMany]);
    }

    static void rows(PrivateQueries x, int howMany) {
        for (int i = 0; i < howMany; i++) {
            x.row(i, 0, 0, 0, 0, 0);
        }
    }

    /** An asker and the house get budgets. */
    static void grant(PrivateQueries x, int asker, int units, int houseUnits) {
        x.budget(asker, units);
        x.budget(4, houseUnits);
    }

    static String out(PrivateQueries x, int size) {
        StringBuilder all = new StringBuilder();
        for (int i = 0; i < size; i++) {
            all.append((char) x.out(i));
        }
        return all.toString();
    }

    static String told(PrivateQueries x, int numbers) {
        StringBuilder all = new StringBuilder();
        for (int i = 0; i < numbers; i++) {
            all.append(i > 0 ? " " : "").append(x.told(i));
        }
        return all.toString();
    }

    /** What a script tells asker 0, who is rich, on a tape of cells of no noise. */
    static String tell(PrivateQueries x, String text) {
        int read = read(x, text);
        if (read < 0) {
            return "read() " + read;
        }
        grant(x, 0, 1000000, 1000000);
        drawZeros(x, Math.max(0, x.wants(2) - x.count(1)));
        return told(x, x.run(0));
    }
}
