/** Promises 15 print and 17 out. */
public final class PrintTest {
    private static final Check CHECK = new Check();

    public static void main(String[] args) {
        allTokens();
        oneSpaceBetweenTwo();
        byOneIsLeftOut();
        zerosAreLeftOut();
        longestScript();
        withoutAScript();
        scriptNotText();
        signsOfOut();
        lastWrittenAlone();
        CHECK.end();
    }

    /** What is printed is a script again, and printed as it is. */
    private static void isPrinted(String text, String want) {
        PrivateQueries x = new PrivateQueries(1, 2);
        CHECK.due("'" + text + "' is read", true, Check.read(x, text) > 0);
        CHECK.due("print() of '" + text + "'", want.length(), x.print());
        CHECK.due("OUT of '" + text + "'", want, Check.out(x, want.length()));
        CHECK.due("behind OUT of '" + text + "'", PrivateQueries.NONE, x.out(want.length()));
        PrivateQueries y = new PrivateQueries(1, 2);
        Check.read(y, want);
        CHECK.due("OUT of '" + want + "'", want, Check.out(y, y.print()));
    }

    private static void allTokens() {
        CHECK.says("The script is written into OUT: all its tokens, ; too");
        isPrinted("count in 3;", "count in 3 ;");
        isPrinted("count where a<=1and b>=2or not[c<>3]in 0;", "count where a <= 1 and b >= 2 or not [ c <> 3 ] in 0 ;");
        isPrinted("count where a<-1or-b>(c+2)*3-d in 0;", "count where a < - 1 or - b > ( c + 2 ) * 3 - d in 0 ;");
        isPrinted("let z=a=f;let g=z and z;count where g in 1;", "let z = a = f ; let g = z and z ; count where g in 1 ;");
        isPrinted("bins f from -7 to -0 in 30;sum e to 9 by 2 in 1;", "bins f from - 7 to - 0 in 30 ; sum e to 9 by 2 in 1 ;");
    }

    private static void oneSpaceBetweenTwo() {
        CHECK.says("one space between two");
        isPrinted("  count  in   3 ;  ", "count in 3 ;");
        isPrinted("count in 3;count in 4;", "count in 3 ; count in 4 ;");
        isPrinted("count where((a))=1in 3;", "count where ( ( a ) ) = 1 in 3 ;");
    }

    private static void byOneIsLeftOut() {
        CHECK.says("by 1, and zeros in front of N, are left out");
        isPrinted("sum a to 5 by 1 in 3;", "sum a to 5 in 3 ;");
        isPrinted("sum a to 1 by 1 in 1;", "sum a to 1 in 1 ;");
        isPrinted("sum a to 5 by 0001 where a=1 in 3;", "sum a to 5 where a = 1 in 3 ;");
        isPrinted("sum a to 1 by 2 in 1;", "sum a to 1 by 2 in 1 ;");
        isPrinted("sum a to 1 by 10 in 1;", "sum a to 1 by 10 in 1 ;");
        isPrinted("sum a to 1 by 1000 in 1;", "sum a to 1 by 1000 in 1 ;");
        isPrinted("sum a to 1 by 1 in 1;sum b to 1 by 2 in 1;sum c to 1 by 1 in 1;",
            "sum a to 1 in 1 ; sum b to 1 by 2 in 1 ; sum c to 1 in 1 ;");
    }

    private static void zerosAreLeftOut() {
        CHECK.says("zeros in front of N");
        isPrinted("sum a to 005 by 0010 in 03;", "sum a to 5 by 10 in 3 ;");
        isPrinted("count in 0;", "count in 0 ;");
        isPrinted("count in 00;", "count in 0 ;");
        isPrinted("count in 010;", "count in 10 ;");
        isPrinted("bins f from -007 to -00 in 030;", "bins f from - 7 to - 0 in 30 ;");
        isPrinted("let g=a=00000000000000000000;let h=a=2147483647;let i=a=0002147483647;",
            "let g = a = 0 ; let h = a = 2147483647 ; let i = a = 2147483647 ;");
        isPrinted("let g=a=1000000000;let h=a=999999999;let i=a=1000000001;let j=a=100;",
            "let g = a = 1000000000 ; let h = a = 999999999 ; let i = a = 1000000001 ; let j = a = 100 ;");
    }

    /** Almost all tokens are of one sign. */
    private static void longestScript() {
        CHECK.says("how many signs. STATE (there is none).");
        PrivateQueries x = new PrivateQueries(1, 2);
        String text = "let g=" + "a-".repeat(995) + "b=1;";
        CHECK.due("signs", 2000, text.length());
        CHECK.due("read()", 1, Check.read(x, text));
        CHECK.due("1999 signs of 1997 tokens", 1999 + 1996, x.print());
        StringBuilder end = new StringBuilder();
        for (int i = 3995 - 9; i < 3995; i++) {
            end.append((char) x.out(i));
        }
        CHECK.due("its end", "- b = 1 ;", end.toString());
        CHECK.due("out(3995)", PrivateQueries.NONE, x.out(3995));
    }

    private static void withoutAScript() {
        CHECK.says("STATE (there is none)");
        PrivateQueries x = new PrivateQueries(1, 2);
        CHECK.due("print()", PrivateQueries.STATE, x.print());
        Check.read(x, "count in 3");
        CHECK.due("print() behind a fault", PrivateQueries.STATE, x.print());
        CHECK.due("out(0)", PrivateQueries.NONE, x.out(0));
        Check.read(x, "count in 3;");
        CHECK.due("print() with one", 12, x.print());
    }

    private static void scriptNotText() {
        CHECK.says("The script is written into OUT");
        PrivateQueries x = new PrivateQueries(1, 2);
        Check.read(x, "count in 3;");
        Check.type(x, "sum");
        CHECK.due("print()", "count in 3 ;", Check.out(x, x.print()));
        CHECK.due("the text stays", 3, x.count(2));
        CHECK.due("print() again", 12, x.print());
    }

    private static void signsOfOut() {
        CHECK.says("Sign i of OUT; NONE.");
        PrivateQueries x = new PrivateQueries(1, 2);
        CHECK.due("out(0) before all", PrivateQueries.NONE, x.out(0));
        Check.read(x, "count in 3;");
        CHECK.due("out(0) before a print", PrivateQueries.NONE, x.out(0));
        x.print();
        CHECK.due("out(-1)", PrivateQueries.NONE, x.out(-1));
        CHECK.due("out(0)", 'c', x.out(0));
        CHECK.due("out(5)", ' ', x.out(5));
        CHECK.due("out(11)", ';', x.out(11));
        CHECK.due("out(12)", PrivateQueries.NONE, x.out(12));
        CHECK.due("out(least)", PrivateQueries.NONE, x.out(Integer.MIN_VALUE));
        CHECK.due("out(most)", PrivateQueries.NONE, x.out(Integer.MAX_VALUE));
    }

    /** OUT has what print or share wrote last; reading leaves it. */
    private static void lastWrittenAlone() {
        CHECK.says("into OUT");
        PrivateQueries x = new PrivateQueries(1, 2);
        CHECK.due("share(0, 0, 30)", 10, x.share(0, 0, 30));
        Check.read(x, "count in 3;");
        CHECK.due("2^31 still", "2147483648", Check.out(x, 10));
        CHECK.due("print()", 12, x.print());
        CHECK.due("a shorter one", 1, x.share(0, 0, 0));
        CHECK.due("out(0)", '3', x.out(0));
        CHECK.due("out(1)", PrivateQueries.NONE, x.out(1));
    }
}
