import java.util.function.ToIntFunction;

/**
 * The order of refusals, and that what is refused changes nothing: two objects get the same calls, one of them
 * the refused call as well, and then all that can be seen of both is compared.
 */
public final class RefusalTest {
    private static final int NONE = PrivateQueries.NONE;
    private static final int UNKNOWN = PrivateQueries.UNKNOWN;
    private static final int OUTSIDE = PrivateQueries.OUTSIDE;
    private static final int STATE = PrivateQueries.STATE;
    private static final int POOR = PrivateQueries.POOR;
    private static final int SHORT = PrivateQueries.SHORT;
    private static final int ROOM = PrivateQueries.ROOM;
    private static final Check CHECK = new Check();

    /** What objects are made to be before the refused call. */
    private enum Kind { NEW, USED, RICH_ASKER, RICH, FULL_TEXT, FULL_TAPE }

    public static void main(String[] args) {
        firstOfSeveral();
        onANewObject();
        onAUsedObject();
        onAFullText();
        onAFullTape();
        faultEmptiesTheTextAlone();
        CHECK.end();
    }

    private static void isRefused(Kind kind, String call, int want, ToIntFunction<PrivateQueries> refused) {
        PrivateQueries x = made(kind);
        PrivateQueries y = made(kind);
        CHECK.due(kind + ": " + call, want, refused.applyAsInt(x));
        CHECK.due("what is seen behind " + kind + ": " + call, seen(y), seen(x));
    }

    private static PrivateQueries made(Kind kind) {
        PrivateQueries x = new PrivateQueries(1, 2);
        if (kind == Kind.FULL_TAPE) {
            for (int i = 0; i < 1499; i++) {
                x.draws(i % 6, (i + 2) % 6);
            }
            x.draws(4, NONE);
        } else if (kind != Kind.NEW) {
            use(x, kind == Kind.FULL_TEXT);
        }
        if (kind == Kind.RICH || kind == Kind.RICH_ASKER) {
            x.budget(1, 100);
        }
        if (kind == Kind.RICH) {
            x.budget(4, 100);
        }
        return x;
    }

    /**
     * Fills the table or the text, as both would want too many calls. Asker 2 has spent all of 5 units, asker 1 has
     * 3 of 9 left, the house 5 of 16; the script wants 6 units and 7 cells, and 4 cells are left.
     */
    private static void use(PrivateQueries x, boolean fillText) {
        for (int i = 0; i < (fillText ? 20 : 60); i++) {
            x.row(i % 7, -i, i * i, 5, i % 2, 60 - i);
        }
        x.budget(1, 9);
        x.budget(2, 5);
        x.budget(4, 16);
        Check.draw(x, 2, 2, 5, 0, 4, 3, 3, 2, 1, 5, 0, 2);
        Check.read(x, "let g=a<3;sum d to 5 in 1;");
        x.run(2);
        Check.read(x, "let g=a<3;let h=not g;bins a from 1 to 2 where h in 1;count where g in 1;sum e to 4 in 0;");
        x.budget(1, 6);
        x.run(1);
        x.budget(1, 9);
        x.print();
        Check.draw(x, 5);
        Check.type(x, fillText ? "count" + " ".repeat(1994) : "count");
    }

    /** All that the object's calls tell of it, and what it does then; the object is spoilt by it. */
    private static String seen(PrivateQueries x) {
        StringBuilder all = new StringBuilder();
        for (int what = 0; what <= 5; what++) {
            all.append(" count ").append(x.count(what));
        }
        all.append(" out ").append(Check.out(x, 12)).append(" told ").append(Check.told(x, 6));
        for (int whose = 0; whose <= 4; whose++) {
            all.append(" ledger ").append(x.ledger(whose, 0)).append(' ').append(x.ledger(whose, 1));
        }
        for (int what = 0; what <= 4; what++) {
            all.append(" question ").append(x.question(0, what)).append(' ').append(x.question(2, what));
        }
        for (int place = 0; place < 6; place++) {
            all.append(" noise ").append(x.noise(place, 0)).append(' ').append(x.noise(place, 1));
        }
        all.append(" last ").append(x.noise(x.count(1) - 1, 0));
        all.append(" print ").append(x.print()).append(' ').append(Check.out(x, 40));
        all.append(" read ").append(x.type(0x20696e20343bL, 6)).append(' ').append(x.read());
        all.append(" script ").append(x.wants(0)).append(' ').append(x.run(0)).append(' ').append(x.run(1));
        all.append(" rows ").append(Check.tell(x,
            "sum a to 6 by 7 in 30;sum f to 60 by 99 where b>-50 and c<999 in 30;bins e from 0 to 1 where d=5 in 30;"));
        return all.toString();
    }

    private static void firstOfSeveral() {
        CHECK.says("of several the first one here: UNKNOWN, OUTSIDE, STATE, POOR, SHORT, ROOM");
        PrivateQueries x = new PrivateQueries(1, 2);
        CHECK.due("wants: outside, state", OUTSIDE, x.wants(3));
        CHECK.due("question: unknown, outside", UNKNOWN, x.question(0, 5));
        CHECK.due("run: unknown, state", UNKNOWN, x.run(4));
        CHECK.due("run: state, and both are poor", STATE, x.run(0));
        CHECK.due("ledger: unknown, outside", UNKNOWN, x.ledger(5, 2));
        CHECK.due("budget: unknown, outside", UNKNOWN, x.budget(5, -1));
        CHECK.due("noise: outside by top, short", OUTSIDE, x.noise(0, 31));
        CHECK.due("noise: outside by from, short", OUTSIDE, x.noise(-1, 30));
        CHECK.due("noise: outside by top, short by from", OUTSIDE, x.noise(Integer.MAX_VALUE, -1));
        Check.read(x, "sum a to 5 in 2;");
        CHECK.due("question: unknown, outside", UNKNOWN, x.question(1, 5));
        CHECK.due("question: outside", OUTSIDE, x.question(0, 5));
        CHECK.due("run: unknown, poor, short", UNKNOWN, x.run(-1));
        CHECK.due("run: both are poor, short", POOR, x.run(0));
        x.budget(0, 5);
        CHECK.due("run: the house is poor, short", POOR, x.run(0));
        x.budget(4, 9);
        CHECK.due("run: another asker is poor, short", POOR, x.run(1));
        CHECK.due("run: short", SHORT, x.run(0));
        Check.drawZeros(x, 3);
        CHECK.due("run", 1, x.run(0));
        CHECK.due("budget: outside, state", OUTSIDE, x.budget(0, -1));
        CHECK.due("budget: state", STATE, x.budget(0, 4));
        PrivateQueries full = made(Kind.FULL_TEXT);
        CHECK.due("type: outside by a byte, room", OUTSIDE, full.type(0x201fL, 2));
        CHECK.due("type: outside by n, room", OUTSIDE, full.type(0x2020L, 9));
        CHECK.due("type: room", ROOM, full.type(0x2020L, 2));
        PrivateQueries tape = made(Kind.FULL_TAPE);
        CHECK.due("draws: outside by the second, room", OUTSIDE, tape.draws(0, 6));
        CHECK.due("draws: outside by the first, room", OUTSIDE, tape.draws(6, 0));
        CHECK.due("draws: room", ROOM, tape.draws(0, 0));
    }

    private static void onANewObject() {
        CHECK.says("What is refused changes nothing");
        isRefused(Kind.NEW, "drop(0)", UNKNOWN, x -> x.drop(0));
        isRefused(Kind.NEW, "draws(0, 6)", OUTSIDE, x -> x.draws(0, 6));
        isRefused(Kind.NEW, "draws(NONE, NONE)", OUTSIDE, x -> x.draws(NONE, NONE));
        isRefused(Kind.NEW, "count(6)", OUTSIDE, x -> x.count(6));
        isRefused(Kind.NEW, "budget(5, 1)", UNKNOWN, x -> x.budget(5, 1));
        isRefused(Kind.NEW, "budget(0, 1000001)", OUTSIDE, x -> x.budget(0, 1000001));
        isRefused(Kind.NEW, "ledger(5, 0)", UNKNOWN, x -> x.ledger(5, 0));
        isRefused(Kind.NEW, "type('a', 0)", OUTSIDE, x -> x.type('a', 0));
        isRefused(Kind.NEW, "type(127, 1)", OUTSIDE, x -> x.type(127, 1));
        isRefused(Kind.NEW, "read()", -1000, x -> x.read());
        isRefused(Kind.NEW, "question(0, 0)", UNKNOWN, x -> x.question(0, 0));
        isRefused(Kind.NEW, "wants(0)", STATE, x -> x.wants(0));
        isRefused(Kind.NEW, "run(0)", STATE, x -> x.run(0));
        isRefused(Kind.NEW, "told(0)", NONE, x -> x.told(0));
        isRefused(Kind.NEW, "noise(0, 0)", SHORT, x -> x.noise(0, 0));
        isRefused(Kind.NEW, "print()", STATE, x -> x.print());
        isRefused(Kind.NEW, "share(1, 0, 0)", OUTSIDE, x -> x.share(1, 0, 0));
        isRefused(Kind.NEW, "out(0)", NONE, x -> x.out(0));
        isRefused(Kind.NEW, "within(1, 0, 0)", 0, x -> x.within(1, 0, 0) ? 1 : 0);
    }

    private static void onAUsedObject() {
        CHECK.says("What is refused changes nothing");
        isRefused(Kind.USED, "row(9, ..)", ROOM, x -> x.row(9, 9, 9, 9, 9, 9));
        isRefused(Kind.USED, "drop(60)", UNKNOWN, x -> x.drop(60));
        isRefused(Kind.USED, "drop(-1)", UNKNOWN, x -> x.drop(-1));
        isRefused(Kind.USED, "draws(0, 6)", OUTSIDE, x -> x.draws(0, 6));
        isRefused(Kind.USED, "draws(0, -2)", OUTSIDE, x -> x.draws(0, -2));
        isRefused(Kind.USED, "draws(6, NONE)", OUTSIDE, x -> x.draws(6, NONE));
        isRefused(Kind.USED, "count(-1)", OUTSIDE, x -> x.count(-1));
        isRefused(Kind.USED, "budget(-1, 9)", UNKNOWN, x -> x.budget(-1, 9));
        isRefused(Kind.USED, "budget(1, -1)", OUTSIDE, x -> x.budget(1, -1));
        isRefused(Kind.USED, "budget(1, 5)", STATE, x -> x.budget(1, 5));
        isRefused(Kind.USED, "budget(4, 10)", STATE, x -> x.budget(4, 10));
        isRefused(Kind.USED, "ledger(1, 2)", OUTSIDE, x -> x.ledger(1, 2));
        isRefused(Kind.USED, "type(.., 9)", OUTSIDE, x -> x.type(0x6161L, 9));
        isRefused(Kind.USED, "type(31, 2)", OUTSIDE, x -> x.type(0x611fL, 2));
        isRefused(Kind.USED, "question(3, 0)", UNKNOWN, x -> x.question(3, 0));
        isRefused(Kind.USED, "question(0, 5)", OUTSIDE, x -> x.question(0, 5));
        isRefused(Kind.USED, "wants(3)", OUTSIDE, x -> x.wants(3));
        isRefused(Kind.USED, "run(4)", UNKNOWN, x -> x.run(4));
        isRefused(Kind.USED, "run(2), who has nothing left", POOR, x -> x.run(2));
        isRefused(Kind.USED, "run(1), who has too little left", POOR, x -> x.run(1));
        isRefused(Kind.RICH_ASKER, "run(1), with too little left to the house", POOR, x -> x.run(1));
        isRefused(Kind.RICH, "run(1), with too few cells", SHORT, x -> x.run(1));
        isRefused(Kind.RICH, "run(2), with too few cells, too", POOR, x -> x.run(2));
        isRefused(Kind.USED, "told(4)", NONE, x -> x.told(4));
        isRefused(Kind.USED, "noise(0, 30)", SHORT, x -> x.noise(0, 30));
        isRefused(Kind.USED, "noise(-1, 0)", OUTSIDE, x -> x.noise(-1, 0));
        isRefused(Kind.USED, "share(0, 31, 30)", OUTSIDE, x -> x.share(0, 31, 30));
        isRefused(Kind.USED, "share(0, 0, 31)", OUTSIDE, x -> x.share(0, 0, 31));
        isRefused(Kind.USED, "out(-1)", NONE, x -> x.out(-1));
        isRefused(Kind.USED, "within(0, 0, 31)", 0, x -> x.within(0, 0, 31) ? 1 : 0);
    }

    private static void onAFullText() {
        CHECK.says("ROOM (2000)");
        isRefused(Kind.FULL_TEXT, "type(.., 2)", ROOM, x -> x.type(0x6161L, 2));
        isRefused(Kind.FULL_TEXT, "type(.., 8)", ROOM, x -> x.type(0x6161616161616161L, 8));
        isRefused(Kind.FULL_TEXT, "type(31, 1)", OUTSIDE, x -> x.type(31, 1));
    }

    private static void onAFullTape() {
        CHECK.says("ROOM (not for all of them)");
        isRefused(Kind.FULL_TAPE, "draws(0, 0)", ROOM, x -> x.draws(0, 0));
        isRefused(Kind.FULL_TAPE, "draws(0, 6)", OUTSIDE, x -> x.draws(0, 6));
    }

    private static void faultEmptiesTheTextAlone() {
        CHECK.says("(but the text, by read())");
        PrivateQueries x = made(Kind.USED);
        PrivateQueries y = made(Kind.USED);
        CHECK.due("read() of 'count'", -1005, x.read());
        CHECK.due("signs", 0, x.count(2));
        CHECK.due("the same text again", 5, x.type(0x636f756e74L, 5));
        CHECK.due("what is seen", seen(y), seen(x));
    }
}
