/** Promise 5: count. */
public final class CountTest {
    private static final Check CHECK = new Check();

    public static void main(String[] args) {
        eachSort();
        withoutAScript();
        withoutARun();
        wrongSorts();
        CHECK.end();
    }

    private static void eachSort() {
        CHECK.says("what = 0 rows, 1 cells, 2 signs of the text, 3 questions of the script (0 without), 4 its lets");
        PrivateQueries x = new PrivateQueries(1, 2);
        Check.grant(x, 2, 9, 9);
        Check.rows(x, 1);
        Check.drawZeros(x, 5);
        Check.read(x, "let g=a=1;let h=g;let i=g;let j=g;count in 0;bins a from 1 to 2 where h in 0;");
        Check.type(x, "count ");
        int[] want = {1, 5, 6, 2, 4, 0};
        for (int what = 0; what <= 5; what++) {
            CHECK.due("count(" + what + ")", want[what], x.count(what));
        }
        CHECK.due("run(2)", 3, x.run(2));
        CHECK.due("cells", 2, x.count(1));
        CHECK.due("numbers told", 3, x.count(5));
    }

    private static void withoutAScript() {
        CHECK.says("3 questions of the script (0 without), 4 its lets");
        PrivateQueries x = new PrivateQueries(1, 2);
        Check.read(x, "let g=a=1;count in 0;count in");
        CHECK.due("questions", 0, x.count(3));
        CHECK.due("lets", 0, x.count(4));
        Check.read(x, "let g=a=1;");
        CHECK.due("questions of lets alone", 0, x.count(3));
        CHECK.due("lets", 1, x.count(4));
        Check.read(x, "count in 0;");
        CHECK.due("questions", 1, x.count(3));
        CHECK.due("lets of questions alone", 0, x.count(4));
    }

    private static void withoutARun() {
        CHECK.says("5 numbers told by the latest run (0 without)");
        PrivateQueries x = new PrivateQueries(1, 2);
        Check.read(x, "bins a from 1 to 2 in 0;");
        x.run(0);
        CHECK.due("behind a refused run", 0, x.count(5));
        Check.grant(x, 0, 1, 1);
        Check.drawZeros(x, 2);
        x.run(0);
        CHECK.due("behind a run", 2, x.count(5));
        x.run(0);
        CHECK.due("behind one more that is refused", 2, x.count(5));
        Check.read(x, "let g=a=1;");
        CHECK.due("with a new script", 2, x.count(5));
        CHECK.due("run of lets alone", 0, x.run(0));
        CHECK.due("behind a run that told none", 0, x.count(5));
    }

    private static void wrongSorts() {
        CHECK.says("5 numbers told by the latest run (0 without). OUTSIDE.");
        PrivateQueries x = new PrivateQueries(1, 2);
        CHECK.due("count(-1)", PrivateQueries.OUTSIDE, x.count(-1));
        CHECK.due("count(0)", 0, x.count(0));
        CHECK.due("count(5)", 0, x.count(5));
        CHECK.due("count(6)", PrivateQueries.OUTSIDE, x.count(6));
        CHECK.due("count(least)", PrivateQueries.OUTSIDE, x.count(Integer.MIN_VALUE));
        CHECK.due("count(most)", PrivateQueries.OUTSIDE, x.count(Integer.MAX_VALUE));
    }
}
