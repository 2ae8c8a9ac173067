/** Promise 9 read, with the document's part on scripts: what may stand where. FaultTest has the limits. */
public final class ReadTest {
    private static final Check CHECK = new Check();

    public static void main(String[] args) {
        oneOrMoreStatements();
        semicolonBehindEach();
        lets();
        counts();
        sums();
        bins();
        whereOrNothing();
        byOrNothing();
        intsWithASign();
        ors();
        ands();
        nots();
        comparisons();
        sumsOfTerms();
        termsOfFactors();
        factors();
        words();
        numbers();
        signs();
        spaces();
        columnsAndNames();
        firstSignOfAToken();
        atTheEnd();
        firstOfSeveral();
        notOneToken();
        howManyStatements();
        takesThePlace();
        nothingIsLeft();
        faultsLeaveTheScript();
        placesOfFaults();
        CHECK.end();
    }

    private static void isRead(String text, int want) {
        ReadCheck.isRead(CHECK, text, want);
    }

    private static void fails(String marked) {
        ReadCheck.fails(CHECK, marked);
    }

    private static void oneOrMoreStatements() {
        CHECK.says("A SCRIPT is one or more STATEMENTS");
        isRead("count in 3;", 1);
        isRead("let g = a = 1;", 1);
        isRead("let g=a=1;count where g in 0;sum a to 1 in 0;bins f from 0 to 0 in 30;", 4);
        isRead("count in 0;let g=a=1;count where g in 0;", 3);
        fails("!");
        fails("   !");
        fails("!;");
        fails("!in 3;");
        fails("!where a=1 in 3;");
        fails("!g = a = 1;");
        fails("!3");
        fails("count in 3;!foo");
        fails("count in 3; !]");
    }

    private static void semicolonBehindEach() {
        CHECK.says("each with a ; behind it");
        fails("count in 3!");
        fails("count in 3;count in 3!");
        fails("let g = a = 1!");
        fails("count in 3 !count in 3;");
        fails("let g = a = 1 !let h = g;");
        fails("count in 3;!;");
        fails("count in 3 !.");
    }

    private static void lets() {
        CHECK.says("let NAME = COND");
        isRead("let g=a=1;let z=g;let h=g and z or not z;", 3);
        fails("let!");
        fails("let != a = 1;");
        fails("let !3 = a = 1;");
        fails("let !let = a = 1;");
        fails("let g!");
        fails("let g !a = 1;");
        fails("let g !<= 1;");
        fails("let g = !;");
        fails("let g = a = 1 !in 3;");
        fails("let g = a = 1 !where a = 1;");
        fails("let !;");
        fails("let g !;");
    }

    private static void counts() {
        CHECK.says("count WHERE in N");
        isRead("count where a = 1 in 3;", 1);
        fails("count!");
        fails("count !a in 3;");
        fails("count !by 2 in 3;");
        fails("count !to 2 in 3;");
        fails("count in!");
        fails("count in !a;");
        fails("count in !;");
        fails("count in !-1;");
        fails("count in 3 !3;");
        fails("count in 3 !+ 1;");
        fails("count !;");
    }

    private static void sums() {
        CHECK.says("sum COLUMN to N BY WHERE in N");
        isRead("sum a to 1 in 0;", 1);
        isRead("sum f to 7 by 2 where a = 1 in 3;", 1);
        fails("sum!");
        fails("sum !to 3 in 3;");
        fails("sum !3 to 3 in 3;");
        fails("sum a !in 3;");
        fails("sum a !from 1 to 3 in 3;");
        fails("sum a to !in 3;");
        fails("sum a to !- 1 in 3;");
        fails("sum a to !a in 3;");
        fails("sum a to 3 !to 3 in 3;");
        fails("sum !;");
        fails("sum a !;");
        fails("sum a to !;");
        fails("sum a to 3 !;");
        fails("sum a to 3 by 2 where a = 1 !;");
    }

    private static void bins() {
        CHECK.says("bins COLUMN from INT to INT WHERE in N");
        isRead("bins a from 0 to 1 in 3;", 1);
        isRead("bins f from 0 to 1 where a = 1 in 3;", 1);
        fails("bins!");
        fails("bins !from 1 to 1 in 3;");
        fails("bins a !to 1 in 3;");
        fails("bins a from !to 1 in 3;");
        fails("bins a from 1 !in 3;");
        fails("bins a from 1 to !in 3;");
        fails("bins a from 1 to 1 !by 2 in 3;");
        fails("bins a from 1 !+ 1 to 1 in 3;");
        fails("bins !;");
        fails("bins a !;");
        fails("bins a from !;");
        fails("bins a from 1 !;");
        fails("bins a from 1 to !;");
        fails("bins a from 1 to 1 !;");
    }

    private static void whereOrNothing() {
        CHECK.says("WHERE: nothing, or where COND.");
        fails("count where!");
        fails("count where !;");
        fails("count where !in 3;");
        fails("count where a !;");
        fails("count where a = !;");
        fails("count where a = 1!");
        fails("count where a = 1 !;");
        fails("count where a = 1 !where a = 1 in 3;");
        fails("count in 3 !where a = 1;");
        fails("sum a to 3 in 3 !where a = 1;");
        fails("bins a !where a = 1 from 1 to 1 in 3;");
    }

    private static void byOrNothing() {
        CHECK.says("BY: nothing, or by N.");
        isRead("sum b to 1 by 1 in 0;", 1);
        fails("sum a to 3 by!");
        fails("sum a to 3 by !;");
        fails("sum a to 3 by !in 3;");
        fails("sum a to 3 by !-1 in 3;");
        fails("sum a to 3 by 2 !by 2 in 3;");
        fails("sum a to 3 where a = 1 !by 2 in 3;");
        fails("sum a !by 2 to 3 in 3;");
    }

    private static void intsWithASign() {
        CHECK.says("INT: N, or - N.");
        isRead("bins a from -3 to - 3 in 3;", 1);
        isRead("bins a from -0 to 0 in 3;", 1);
        isRead("bins a from 0 to -0 in 3;", 1);
        fails("bins a from - !- 1 to 1 in 3;");
        fails("bins a from !+ 1 to 1 in 3;");
        fails("bins a from !(1) to 1 in 3;");
        fails("bins a from !a to 1 in 3;");
        fails("bins a from - !to 1 in 3;");
        fails("bins a from 1 to - !in 3;");
        fails("bins a from 1 to - !- 1 in 3;");
        fails("bins a from 1 to !a in 3;");
    }

    private static void ors() {
        CHECK.says("COND: one or more ANDs with or between them.");
        isRead("let g = a = 1 or b = 2 or c = 3;", 1);
        fails("let g = !or b = 2;");
        fails("let g = a = 1 or !;");
        fails("let g = a = 1 or !or b = 2;");
        fails("let g = a = 1 or !and b = 2;");
        fails("let g = a = 1 !b = 2;");
    }

    private static void ands() {
        CHECK.says("AND: one or more NOTs with and between them.");
        isRead("let g = a = 1 and b = 2 or c = 3 and d = 4;", 1);
        fails("let g = !and b = 2;");
        fails("let g = a = 1 and !;");
        fails("let g = a = 1 and !and b = 2;");
        fails("let g = a = 1 and !or b = 2;");
    }

    private static void nots() {
        CHECK.says("NOT: not NOT; [ COND ]; a NAME; or SUM");
        isRead("let g = not not [[a = 1] or not [b = 2 and c = 3]];", 1);
        isRead("let g = a = 1; let h = not g and [g] or [not [g]];", 2);
        fails("let g = not !;");
        fails("let g = not a !;");
        fails("let g = a = 1 !not b = 2;");
        fails("let g = [!];");
        fails("let g = [a = 1!;");
        fails("let g = [a = 1!);");
        fails("let g = [a !];");
        fails("let g = a = 1!];");
        fails("let g = a = 1 ![b = 1];");
        fails("let g = [a = 1] != 1;");
        fails("let g = [a = 1] ![b = 1];");
        fails("let g = a = 1; count where g !< 3 in 3;");
        fails("let g = a = 1; count where g !+ 3 in 3;");
        fails("let g = a = 1; count where g !g in 3;");
    }

    private static void comparisons() {
        CHECK.says("SUM, one of < > = <= >= <>, SUM");
        isRead("let g=a<1;let h=a>1;let i=a=1;let j=a<=1;let k=a>=1;let l=a<>1;", 6);
        fails("let g = a !;");
        fails("let g = a !and b = 1;");
        fails("let g = a = !;");
        fails("let g = != 1;");
        fails("let g = a < b !< c;");
        fails("let g = a = b != c;");
        fails("let g = a = ![b = 1];");
        fails("let g = a = !not b = 1;");
        fails("let g = (a != 1);");
        fails("let g = (a !> 1);");
        fails("let g = a = 1; count where 3 < !g in 3;");
    }

    private static void sumsOfTerms() {
        CHECK.says("SUM: one or more TERMs with + or - between them.");
        isRead("let g = a + b - c + 1 = 2 - d;", 1);
        fails("let g = !+ b = 1;");
        fails("let g = a + !+ b = 1;");
        fails("let g = a + != 1;");
        fails("let g = a - != 1;");
        fails("let g = a - !+ b = 1;");
        fails("let g = a = 1 + !;");
        fails("let g = a !b = 1;");
        fails("let g = a !1 = 1;");
        fails("let g = 2 !a = 1;");
        fails("let g = a + ![b] = 1;");
    }

    private static void termsOfFactors() {
        CHECK.says("TERM: one or more FACTORs with * between them.");
        isRead("let g = a * b * 2 = 3 * - c;", 1);
        fails("let g = !* b = 1;");
        fails("let g = a * !* b = 1;");
        fails("let g = a * !+ b = 1;");
        fails("let g = a * != 1;");
        fails("let g = a !(b) = 1;");
    }

    private static void factors() {
        CHECK.says("FACTOR: N; a COLUMN; - FACTOR; ( SUM ).");
        isRead("let g = - - a * - ( b + c - 2 ) * 3 - - 1 + 0 >= ( ( 4 ) );", 1);
        fails("let g = - !;");
        fails("let g = - !+ a = 1;");
        fails("let g = (!) = 1;");
        fails("let g = (a!;");
        fails("let g = (a!] = 1;");
        fails("let g = a!) = 1;");
        fails("let g = a = (1 !and b = 1);");
        fails("let g = a = 1; count where (!g) in 3;");
        fails("let g = a = 1; count where - !g in 3;");
    }

    private static void words() {
        CHECK.says("words (rows of small letters, as long as they go)");
        isRead("count where a<1or b>2and c=3in 4;", 1);
        isRead("sum a to5by2where a=1in3;", 1);
        fails("!counts in 3;");
        fails("!coun t in 3;");
        fails("!countin 3;");
        fails("count !wherea = 1 in 3;");
        fails("sum !ato 3 in 3;");
        fails("!lets g = a = 1;");
        fails("count where !nota = 1 in 3;");
        fails("!Count in 3;");
        fails("count !In 3;");
    }

    private static void numbers() {
        CHECK.says("N (rows of digits, as long as they go, up to 2147483647)");
        isRead("count where a = 2147483647 in 3;", 1);
        isRead("count where a = 0000000000000000002147483647 in 00030;", 1);
        isRead("count where a = " + "0".repeat(1000) + "1 in 3;", 1);
        isRead("bins a from 2147483647 to 2147483647 in 3;", 1);
        isRead("bins a from -2147483647 to -2147483647 in 3;", 1);
        fails("count where a = !2147483648 in 3;");
        fails("count where a = !00002147483648 in 3;");
        fails("count where a = !4294967297 in 3;");
        fails("count where a = !18446744073709551617 in 3;");
        fails("count where a = !" + "9".repeat(1500) + " in 3;");
        fails("count where a = - !2147483648 in 3;");
        fails("bins a from !2147483648 to 1 in 3;");
        fails("bins a from - !2147483648 to 1 in 3;");
        fails("bins a from 1 to !2147483648 in 3;");
        fails("count in !4294967297;");
        fails("count where a = 1 !2 in 3;");
    }

    private static void signs() {
        CHECK.says("the signs ; = < > <= >= <> + - * ( ) [ ]");
        isRead("count where a<=1or b>=2and c<>3in4;", 1);
        isRead("let g=a<-1;let h=a>-1;let i=a=-1;let j=a<=-1;let k=a<>-1;let l=a>=-1;", 6);
        fails("count where a < != 1 in 3;");
        fails("count where a > != 1 in 3;");
        fails("count where a < !> 1 in 3;");
        fails("count where a = !< 1 in 3;");
        fails("count where a =!> 1 in 3;");
        fails("count where a =!= 1 in 3;");
        fails("count where a <>!= 1 in 3;");
        fails("count where a <=!> 1 in 3;");
        fails("count where a >!> 1 in 3;");
        fails("count where a >!< 1 in 3;");
        fails("count where a <!< 1 in 3;");
    }

    private static void spaces() {
        CHECK.says("spaces (32) may stand between tokens");
        isRead("  count  in  3  ;  ", 1);
        isRead("count in 3;", 1);
        isRead("let g=[(a)=1]and not[b<1];count where g in 3;", 2);
        fails("!co unt in 3;");
        fails("count in 3 !0;");
        fails("count where a < != 1 in 3;");
        fails("count where a = 1 !0 in 3;");
    }

    private static void columnsAndNames() {
        CHECK.says("A COLUMN is one of the words a .. f, a NAME one of g .. z.");
        isRead("sum a to 1 in 0;sum f to 1 in 0;bins a from 1 to 1 in 0;bins f from 1 to 1 in 0;", 4);
        isRead("let g = a = f;let z = g;count where g and z in 0;", 3);
        fails("sum !g to 3 in 3;");
        fails("bins !g from 1 to 1 in 3;");
        fails("let !a = a = 1;");
        fails("let !f = a = 1;");
        fails("let !gg = a = 1;");
        fails("count where !ab = 1 in 3;");
        fails("count where !gh in 3;");
        fails("count where f !in 3;");
        fails("let g = a = 1; sum !g to 3 in 3;");
        fails("let g = a = 1; count !g in 3;");
        fails("let g = a = 1; bins a from 1 to !g in 3;");
    }

    private static void firstSignOfAToken() {
        CHECK.says("FAULTS, at the first sign of a token");
        fails("   !where");
        fails("count  !wherex");
        fails("count where a !inn 3;");
        fails("count in  !0000000000031  ;");
        fails("count where a = 1 !<> 2 in 3;");
    }

    private static void atTheEnd() {
        CHECK.says("or at the text's end");
        fails("count in 3  !");
        fails("count where a =!");
        fails("count where a =     !");
        fails("let g = [a = 1]!");
        fails("count in 3;count!");
        fails("let g=" + "a+".repeat(996) + "a!");
        fails("let g=" + "a+".repeat(997) + "!");
    }

    private static void firstOfSeveral() {
        CHECK.says("the first token that cannot stand where it is");
        fails("!in 31 # ;");
        fails("count !; count in 31;");
        fails("count in !31 #");
        fails("count in 3 !# count in 31;");
        fails("count where a !2147483648 #");
        fails("let g = !h; let g = g;");
        fails("bins a from 5 to !3 in 31;");
    }

    private static void notOneToken() {
        CHECK.says("or is none");
        for (char sign = ' '; sign <= '~'; sign++) {
            boolean known = " ;=<>+-*()[]".indexOf(sign) >= 0 || Character.isLowerCase(sign) || Character.isDigit(sign);
            if (!known) {
                int place = "count where a=1 ".length();
                isRead("count where a=1 " + sign + " in 3;", -1000 - place);
                isRead("" + sign, -1000);
            }
        }
        fails("count in 3!.;");
        fails("count !_ in 3;");
        fails("count where a = !{1} in 3;");
    }

    private static void howManyStatements() {
        CHECK.says("how many statements");
        isRead("count in 0;", 1);
        isRead(ReadCheck.lets(10) + "count in 0;".repeat(12), 22);
    }

    private static void takesThePlace() {
        CHECK.says("The text is read as a SCRIPT, which takes the place of the one before, and is empty then");
        PrivateQueries x = new PrivateQueries(1, 2);
        Check.read(x, "let g=a=1;sum b to 7 where g in 5;count in 1;");
        CHECK.due("another", 1, Check.read(x, "count in 4;"));
        CHECK.due("signs", 0, x.count(2));
        CHECK.due("questions", 1, x.count(3));
        CHECK.due("lets", 0, x.count(4));
        CHECK.due("units", 1, x.wants(0));
        CHECK.due("its words", "count in 4 ;", Check.out(x, x.print()));
        CHECK.due("no name is known from before", -1012, Check.read(x, "count where g in 3;"));
        CHECK.due("and none is used up", 1, Check.read(x, "let g = a = 2;"));
        CHECK.due("a third one", 2, Check.read(x, "count in 5;count in 6;"));
        CHECK.due("its words", "count in 5 ; count in 6 ;", Check.out(x, x.print()));
    }

    /** Each is read twice before, whichever place the script is held in. */
    private static void nothingIsLeft() {
        CHECK.says("which takes the place of the one before");
        String[] before = {"bins b from 5 to 9 where a = 9 in 3;".repeat(4), "sum b to 1 by 4 where a = 9 in 3;".repeat(4),
            "let g = a = 9;" + "count where g in 3;".repeat(4), "bins b from -9 to -5 in 3;".repeat(4) + "count in"};
        for (String text : before) {
            PrivateQueries x = new PrivateQueries(1, 2);
            x.row(2, 7, 0, 0, 0, 0);
            Check.read(x, text);
            Check.read(x, text);
            CHECK.due("behind '" + text + "'", "2 1 1 2",
                Check.tell(x, "sum a to 9 in 9;count in 9;bins a from 2 to 2 in 9;sum a to 9 in 9;"));
            CHECK.due("units behind '" + text + "'", 20, x.wants(0));
        }
    }

    private static void faultsLeaveTheScript() {
        CHECK.says("(the script stays, the text is empty, too)");
        PrivateQueries x = new PrivateQueries(1, 2);
        x.row(1, 9, 0, 0, 0, 0);
        x.row(2, 9, 0, 0, 0, 0);
        Check.read(x, "let g=a=1;sum b to 7 where g in 9;");
        CHECK.due("a fault at its end", -1059,
            Check.read(x, "let h=b=2;let g=h;count where h in 3;count in 4;bins a from"));
        CHECK.due("signs", 0, x.count(2));
        CHECK.due("questions", 1, x.count(3));
        CHECK.due("lets", 1, x.count(4));
        CHECK.due("units", 7, x.wants(0));
        CHECK.due("sort", 1, x.question(0, 0));
        CHECK.due("its words", "let g = a = 1 ; sum b to 7 where g in 9 ;", Check.out(x, x.print()));
        CHECK.due("no text any more", -1000, x.read());
        Check.grant(x, 0, 7, 7);
        Check.drawZeros(x, 10);
        CHECK.due("run(0)", 1, x.run(0));
        CHECK.due("told(0)", 7, x.told(0));
    }

    private static void placesOfFaults() {
        CHECK.says("or -1000 less the place of its FAULT");
        isRead("", -1000);
        isRead("count", -1005);
        isRead(" ".repeat(1999) + "#", -2999);
        isRead(" ".repeat(2000), -3000);
    }
}
