/** Promise 15 print. */
public final class PrintTest {
    private static final Check CHECK = new Check();

    public static void main(String[] args) {
        isPrinted("count in 3;", "count in 3 ;");
        isPrinted("  count  in   3 ;  ", "count in 3 ;");
        isPrinted("count where a<=1and b>=2or not[c<>3]in 0;", "count where a <= 1 and b >= 2 or not [ c <> 3 ] in 0 ;");
        isPrinted("count where a<-1or-b>(c+2)*3in 0;", "count where a < - 1 or - b > ( c + 2 ) * 3 in 0 ;");
        isPrinted("sum a to 5 by 1 in 3;", "sum a to 5 in 3 ;");
        isPrinted("sum a to 5 by 0001 where a=1 in 3;", "sum a to 5 where a = 1 in 3 ;");
        isPrinted("sum a to 005 by 0010 in 03;", "sum a to 5 by 10 in 3 ;");
        isPrinted("sum a to 1 in 1;sum b to 1 by 2 in 1;", "sum a to 1 in 1 ; sum b to 1 by 2 in 1 ;");
        isPrinted("sum a to 1 by 1000 in 00;", "sum a to 1 by 1000 in 0 ;");
        isPrinted("bins f from -007 to -0 in 30;", "bins f from - 7 to - 0 in 30 ;");
        isPrinted("let z=a=2147483647;let g=z and z;", "let z = a = 2147483647 ; let g = z and z ;");
        isPrinted("let g=a=00000000000000000000;count where g in 10;", "let g = a = 0 ; count where g in 10 ;");
        isPrinted("let g=a=1000000000;let h=a=999999999;let i=a=1000000001;let j=a=10;",
            "let g = a = 1000000000 ; let h = a = 999999999 ; let i = a = 1000000001 ; let j = a = 10 ;");
        longest();
        needsAScript();
        CHECK.end();
    }

    private static void isPrinted(String text, String want) {
        PrivateQueries x = new PrivateQueries(1, 2);
        CHECK.due("'" + text + "' is read", true, Check.read(x, text) > 0);
        CHECK.due("print()", want.length(), x.print());
        CHECK.due("print of '" + text + "'", want, Check.out(x, want.length()));
        CHECK.due("behind it", PrivateQueries.NONE, x.out(want.length()));
        PrivateQueries y = new PrivateQueries(1, 2);
        CHECK.due("'" + want + "' is read, too", true, Check.read(y, want) > 0);
        CHECK.due("and printed as it is", want, Check.out(y, y.print()));
    }

    /** Almost all tokens are of one sign. */
    private static void longest() {
        PrivateQueries x = new PrivateQueries(1, 2);
        String text = "let g=" + "a-".repeat(995) + "b=1;";
        CHECK.due("2000 signs", 2000, text.length());
        CHECK.due("read()", 1, Check.read(x, text));
        CHECK.due("1999 signs of 1997 tokens", 1999 + 1996, x.print());
        CHECK.due("its end", "b = 1 ;", tail(x, 3995));
        CHECK.due("behind it", PrivateQueries.NONE, x.out(3995));
    }

    private static String tail(PrivateQueries x, int size) {
        StringBuilder all = new StringBuilder();
        for (int i = size - 7; i < size; i++) {
            all.append((char) x.out(i));
        }
        return all.toString();
    }

    private static void needsAScript() {
        PrivateQueries x = new PrivateQueries(1, 2);
        Check.read(x, "count in 3");
        CHECK.due("print()", PrivateQueries.STATE, x.print());
        CHECK.due("out(0)", PrivateQueries.NONE, x.out(0));
        Check.read(x, "count in 3;");
        Check.type(x, "sum");
        CHECK.due("the script, not the text", "count in 3 ;", Check.out(x, x.print()));
        CHECK.due("again", 12, x.print());
        CHECK.due("the text stays", 3, x.count(2));
    }
}
