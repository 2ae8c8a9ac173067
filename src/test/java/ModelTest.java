import java.nio.charset.StandardCharsets;
import java.util.Random;

/** Random runs of calls, each call's answer compared with the model's; no object has more than 512 calls. */
public final class ModelTest {
    private static final int RUNS = 3000;
    /** A script that is being typed then is still read and printed: two calls more. */
    private static final int CALLS = 510;
    private static final int[] EDGES = {Integer.MIN_VALUE, -2, -1, 0, 1, 2, 3, 4, 5, 6, 29, 30, 31, 60, Integer.MAX_VALUE};
    private static final Check CHECK = new Check();

    private final Random random;
    private final int p;
    private final int q;
    private final PrivateQueries real;
    private final Model model;
    private int calls;
    private static int readWell;
    private static int readBadly;
    private static int ranWell;

    private ModelTest(int seed) {
        random = new Random(seed);
        p = seed % 3 == 0 ? 1 + random.nextInt(4) : random.nextInt(1100) - 50;
        q = seed % 3 == 0 ? p + 1 + random.nextInt(4) : random.nextInt(1100) - 50;
        real = new PrivateQueries(p, q);
        model = new Model(p, q);
    }

    public static void main(String[] args) {
        for (int seed = 1; seed <= RUNS; seed++) {
            new ModelTest(seed).playAll();
        }
        CHECK.due("many scripts were read", true, readWell > RUNS);
        CHECK.due("many faults were found", true, readBadly > RUNS);
        CHECK.due("many runs told numbers", true, ranWell > RUNS);
        CHECK.end();
    }

    private void playAll() {
        for (int whose = 0; whose <= 4; whose++) {
            budget(whose, random.nextInt(whose == 4 ? 6000 : 3000));
        }
        while (calls < CALLS) {
            play();
        }
    }

    private boolean due(String call, long want, long got) {
        calls++;
        CHECK.due("P " + p + ", Q " + q + ", call " + calls + ": " + call, want, got);
        return want == got;
    }

    private int edge() {
        return EDGES[random.nextInt(EDGES.length)];
    }

    private void play() {
        int dice = random.nextInt(100);
        if (dice < 12) {
            row();
        } else if (dice < 15) {
            int row = random.nextInt(4) == 0 ? edge() : random.nextInt(20);
            due("drop(" + row + ")", model.drop(row), real.drop(row));
        } else if (dice < 40) {
            for (int i = 0; i < 8 && calls < CALLS; i++) {
                draws();
            }
        } else if (dice < 55) {
            script();
        } else if (dice < 68) {
            ask();
        } else if (dice < 72) {
            budget(edge(), random.nextInt(3) == 0 ? edge() : random.nextInt(8000));
        } else if (dice < 74) {
            int n = random.nextInt(11) - 1;
            long signs = random.nextLong() & 0x7f7f7f7f7f7f7f7fL;
            due("type(" + signs + ", " + n + ")", model.type(signs, n), real.type(signs, n));
        } else {
            look();
        }
    }

    private void row() {
        int[] it = new int[6];
        for (int i = 0; i < 6; i++) {
            it[i] = random.nextInt(8) == 0 ? random.nextInt() : random.nextInt(3) == 0 ? edge() : random.nextInt(12) - 3;
        }
        due("row", model.row(it[0], it[1], it[2], it[3], it[4], it[5]), real.row(it[0], it[1], it[2], it[3], it[4], it[5]));
    }

    private void draws() {
        int first = cell();
        int second = random.nextInt(6) == 0 ? -1 : cell();
        due("draws(" + first + ", " + second + ")", model.draws(first, second), real.draws(first, second));
    }

    private int cell() {
        int p1 = Math.max(1, Math.min(999, p));
        int q1 = Math.max(p1 + 1, Math.min(1000, q));
        int[] limits = {q1 * (q1 - p1), q1 * (q1 - p1) + p1 * q1, p1 * (p1 + q1), q1 * (p1 + q1)};
        int dice = random.nextInt(100);
        if (dice < 40) {
            return limits[random.nextInt(dice < 2 ? 4 : 3)] - random.nextInt(2);
        }
        return dice == 99 ? edge() : random.nextInt(q1 * (p1 + q1));
    }

    private void budget(int whose, int units) {
        due("budget(" + whose + ", " + units + ")", model.budget(whose, units), real.budget(whose, units));
    }

    private void ask() {
        int asker = random.nextInt(10) == 0 ? edge() : random.nextInt(4);
        int want = model.run(asker);
        due("run(" + asker + ")", want, real.run(asker));
        ranWell += want > 0 ? 1 : 0;
        for (int i = 0; i < want && calls < CALLS; i++) {
            due("told(" + i + ")", model.told(i), real.told(i));
        }
    }

    private void script() {
        String text = new Scripts(random).text();
        byte[] signs = text.getBytes(StandardCharsets.ISO_8859_1);
        for (int from = 0; from < signs.length && calls < CALLS; from += 8) {
            int n = Math.min(8, signs.length - from);
            long packed = Check.pack(signs, from, n);
            due("type(" + packed + ", " + n + ")", model.type(packed, n), real.type(packed, n));
        }
        int want = model.read();
        if (!due("read()", want, real.read())) {
            System.out.println("  of '" + text + "'");
        }
        readWell += want > 0 ? 1 : 0;
        readBadly += want < 0 ? 1 : 0;
        due("print()", model.print(), real.print());
        int size = model.count(0);
        for (int i = 0; i < 6 && calls < CALLS; i++) {
            int at = random.nextInt(100 + size);
            due("out(" + at + ")", model.out(at), real.out(at));
        }
    }

    private void look() {
        int a = random.nextInt(3) == 0 ? edge() : random.nextInt(12);
        int b = random.nextInt(3) == 0 ? edge() : random.nextInt(12);
        int c = random.nextInt(3) == 0 ? edge() : random.nextInt(31);
        switch (random.nextInt(9)) {
            case 0:
                due("count(" + a + ")", model.count(a), real.count(a));
                break;
            case 1:
                due("ledger(" + a + ", " + b + ")", model.ledger(a, b), real.ledger(a, b));
                break;
            case 2:
                due("question(" + a + ", " + b + ")", model.question(a, b), real.question(a, b));
                break;
            case 3:
                due("wants(" + a + ")", model.wants(a), real.wants(a));
                break;
            case 4:
                due("told(" + c + ")", model.told(c), real.told(c));
                break;
            case 5:
                due("noise(" + b + ", " + c + ")", model.noise(b, c), real.noise(b, c));
                break;
            case 6:
                due("out(" + c + ")", model.out(c), real.out(c));
                break;
            case 7:
                due("within(" + a + ", " + b + ", " + c + ")", model.within(a, b, c) ? 1 : 0, real.within(a, b, c) ? 1 : 0);
                break;
            default:
                shared(a, b, c);
                break;
        }
    }

    private void shared(int a, int o, int top) {
        int size = model.share(a, o, top);
        due("share(" + a + ", " + o + ", " + top + ")", size, real.share(a, o, top));
        for (int i = 0; i <= size && calls < CALLS; i += 1 + random.nextInt(9)) {
            due("out(" + i + ")", model.out(i), real.out(i));
        }
    }
}
