/** Promises 8 type and 9 read, with every fault that the document names. */
public final class ReadTest {
    private static final Check CHECK = new Check();

    public static void main(String[] args) {
        typedSigns();
        typedRoom();
        statements();
        tokens();
        numbers();
        names();
        questions();
        ranges();
        conditions();
        sums();
        tooMany();
        tooDeep();
        tooManyJoints();
        faultsLeaveTheScript();
        CHECK.end();
    }

    private static void typedSigns() {
        PrivateQueries x = new PrivateQueries(1, 2);
        CHECK.due("one sign", 1, x.type(0x6360L, 1));
        CHECK.due("a space and a tilde", 3, x.type(0x207eL, 2));
        CHECK.due("eight signs", 11, x.type(0x6162636465666768L, 8));
        CHECK.due("only the lowest bytes are looked at", 12, x.type(0xffffffffffffff41L, 1));
        long[] bad = {0x1f, 0x7f, 0x80, 0xff, 0x00, 0x0a};
        for (long one : bad) {
            CHECK.due("byte " + one, PrivateQueries.OUTSIDE, x.type(one, 1));
            CHECK.due("byte " + one + " before a", PrivateQueries.OUTSIDE, x.type(one << 8 | 'a', 2));
            CHECK.due("byte " + one + " highest", PrivateQueries.OUTSIDE, x.type(one << 56 | 0x61616161616161L, 8));
        }
        CHECK.due("n 0", PrivateQueries.OUTSIDE, x.type('a', 0));
        CHECK.due("n 9", PrivateQueries.OUTSIDE, x.type(0x6161616161616161L, 9));
        CHECK.due("n -1", PrivateQueries.OUTSIDE, x.type('a', -1));
        CHECK.due("n least", PrivateQueries.OUTSIDE, x.type('a', Integer.MIN_VALUE));
        CHECK.due("refused ones came not", 12, x.count(2));
        PrivateQueries y = new PrivateQueries(1, 2);
        y.type(0x636f756e74206963L >> 8, 7);
        y.type(0x6e20333bL, 4);
        CHECK.due("the highest byte comes first", 1, y.read());
    }

    private static void typedRoom() {
        PrivateQueries x = new PrivateQueries(1, 2);
        Check.type(x, " ".repeat(1992));
        CHECK.due("1999", 1999, x.type(0x20202020202020L, 7));
        CHECK.due("two more", PrivateQueries.ROOM, x.type(0x2020L, 2));
        CHECK.due("outside comes before", PrivateQueries.OUTSIDE, x.type(0x2001L, 2));
        CHECK.due("2000", 2000, x.type(0x20L, 1));
        CHECK.due("one more", PrivateQueries.ROOM, x.type(0x20L, 1));
        CHECK.due("all spaces: at the end", -3000, x.read());
        CHECK.due("empty", 0, x.count(2));
        CHECK.due("a sign again", 1, x.type(0x20L, 1));
    }

    private static void isRead(String text, int want) {
        PrivateQueries x = new PrivateQueries(1, 2);
        CHECK.due("'" + text + "'", want, Check.read(x, text));
        CHECK.due("the text is empty behind '" + text + "'", 0, x.count(2));
        CHECK.due("a script behind '" + text + "'", want > 0 ? 0 : PrivateQueries.STATE, Math.min(x.wants(0), 0));
    }

    /** The fault is where the ! stands, which is left out of the text. */
    private static void fails(String marked) {
        int place = marked.indexOf('!');
        isRead(marked.substring(0, place) + marked.substring(place + 1), -1000 - place);
    }

    private static void statements() {
        isRead("count in 3;", 1);
        isRead("  count  in  3  ;  ", 1);
        isRead("let g = a = 1;", 1);
        isRead("let g=a=1;count where g in 0;sum a to 1 in 0;bins f from 0 to 0 in 30;", 4);
        isRead("count in 0;let g=a=1;count where g in 0;", 3);
        fails("!");
        fails("   !");
        fails("!;");
        fails("count in 3;!;");
        fails("count in 3!");
        fails("count in 3  !");
        fails("count in!");
        fails("count!");
        fails("!in 3;");
        fails("!where a=1 in 3;");
        fails("!g = a = 1;");
        fails("!3");
        fails("count in 3 !count in 3;");
        fails("count in 3;!foo");
        fails("let g = a = 1!");
        fails("let g = a = 1 !in 3;");
        fails("count in 3; !]");
    }

    private static void tokens() {
        isRead("count where a<1or b>2and c=3in 4;", 1);
        isRead("count where a<=1or b>=2and c<>3in4;", 1);
        isRead("sum a to5by2where a=1in3;", 1);
        isRead("let g=a<-1;let h=a>-1;let i=a=-1;let j=a<=-1;let k=a<>-1;let l=a>=-1;", 6);
        fails("!counts in 3;");
        fails("!coun t in 3;");
        fails("!Count in 3;");
        fails("count !In 3;");
        fails("count where a !# 1 in 3;");
        fails("count where a !&");
        fails("count where a < != 1 in 3;");
        fails("count where a > != 1 in 3;");
        fails("count where a < !> 1 in 3;");
        fails("count where a = !< 1 in 3;");
        fails("count where a =!> 1 in 3;");
        fails("count where a <>!= 1 in 3;");
        fails("count where a >!> 1 in 3;");
        fails("count where a = !{1} in 3;");
        fails("count where a !/ 2 = 1 in 3;");
        fails("count !_ in 3;");
        fails("count in 3!.;");
        fails("count !wherea = 1 in 3;");
        fails("sum !ato 3 in 3;");
        fails("count where !ab = 1 in 3;");
        fails("count where !gh in 3;");
        fails("count !~");
    }

    private static void numbers() {
        isRead("count where a = 2147483647 in 3;", 1);
        isRead("count where a = 0000000000000000002147483647 in 00030;", 1);
        isRead("count where a = " + "0".repeat(1000) + "1 in 3;", 1);
        fails("count where a = !2147483648 in 3;");
        fails("count where a = !00002147483648 in 3;");
        fails("count where a = !4294967297 in 3;");
        fails("count where a = !18446744073709551617 in 3;");
        fails("count where a = !" + "9".repeat(1500) + " in 3;");
        fails("count in !31;");
        fails("count in !4294967297;");
        fails("count in !300;");
        fails("count in !-1;");
        fails("count in !a;");
        fails("count in 3 !3;");
        isRead("count in 0;", 1);
        isRead("count in 30;", 1);
    }

    private static void names() {
        isRead("let g=a=1;let z=g;let h=g and z or not z;count where h in 1;", 4);
        fails("let !a = a = 1;");
        fails("let !f = a = 1;");
        fails("let !gg = a = 1;");
        fails("let !let = a = 1;");
        fails("let != a = 1;");
        fails("let !3 = a = 1;");
        fails("let g !a = 1;");
        fails("let g !<= 1;");
        fails("let g = !g;");
        fails("let g = !h;");
        fails("let g = a = 1 and !g;");
        fails("let g = !h; let h = a = 1;");
        fails("let g = a = 1; let !g = a = 1;");
        fails("let g = a = 1; let h = g; let !g = h;");
        fails("count where !g in 3; let g = a = 1;");
        fails("let g = a = 1; count where g !< 3 in 3;");
        fails("let g = a = 1; count where g !+ 3 in 3;");
        fails("let g = a = 1; count where 3 < !g in 3;");
        fails("let g = a = 1; count where (!g) in 3;");
        fails("let g = a = 1; sum !g to 3 in 3;");
        fails("let g = a = 1; count !g in 3;");
        PrivateQueries x = new PrivateQueries(1, 2);
        CHECK.due("a let", 1, Check.read(x, "let g = a = 1;"));
        CHECK.due("names go with their script", -1012, Check.read(x, "count where g in 3;"));
        CHECK.due("and may come again", 1, Check.read(x, "let g = a = 2;"));
    }

    private static void questions() {
        isRead("sum a to 1 in 0;", 1);
        isRead("sum f to 1000 by 1000 where a = 1 in 30;", 1);
        isRead("sum b to 1 by 1 in 0;", 1);
        fails("sum !to 3 in 3;");
        fails("sum a !in 3;");
        fails("sum a to !in 3;");
        fails("sum a to !0 in 3;");
        fails("sum a to !1001 in 3;");
        fails("sum a to !- 1 in 3;");
        fails("sum a to !a in 3;");
        fails("sum a to 3 by !0 in 3;");
        fails("sum a to 3 by !1001 in 3;");
        fails("sum a to 3 by !-1 in 3;");
        fails("sum a to 3 by !in 3;");
        fails("sum a to 3 by 2 !by 2 in 3;");
        fails("sum a to 3 where a = 1 !by 2 in 3;");
        fails("sum a !from 1 to 3 in 3;");
        fails("sum a to 3 where a = 1 in !31;");
        fails("count !by 2 in 3;");
        fails("count !a in 3;");
        fails("count where !in 3;");
        fails("count where a = 1 !;");
        fails("count where a = 1 !where a = 1 in 3;");
        fails("count in 3 !where a = 1;");
    }

    private static void ranges() {
        isRead("bins a from 0 to 0 in 3;", 1);
        isRead("bins a from 0 to 19 in 3;", 1);
        isRead("bins a from -19 to 0 in 3;", 1);
        isRead("bins a from - 10 to - 10 where a = 1 in 3;", 1);
        isRead("bins a from 2147483628 to 2147483647 in 3;", 1);
        isRead("bins a from -2147483647 to -2147483628 in 3;", 1);
        isRead("bins a from -0 to 0 in 3;", 1);
        fails("bins a from 0 to !20 in 3;");
        fails("bins a from -19 to !1 in 3;");
        fails("bins a from 1 to !0 in 3;");
        fails("bins a from 1 to - !1 in 3;");
        fails("bins a from -20 to -!0 in 3;");
        fails("bins a from -2147483647 to !2147483647 in 3;");
        fails("bins a from 2147483647 to -!2147483647 in 3;");
        fails("bins a from -1 to -!2 in 3;");
        fails("bins a from - !- 1 to 1 in 3;");
        fails("bins a from !+ 1 to 1 in 3;");
        fails("bins a from !(1) to 1 in 3;");
        fails("bins a from 1 to - !in 3;");
        fails("bins a from 1 to !in 3;");
        fails("bins a from !to 1 in 3;");
        fails("bins a from 1 !in 3;");
        fails("bins a !to 1 in 3;");
        fails("bins !from 1 to 1 in 3;");
        fails("bins !g from 1 to 1 in 3;");
        fails("bins a from 1 to 1 !by 2 in 3;");
        fails("bins a from 1 !+ 1 to 1 in 3;");
        fails("bins a from !2147483648 to 1 in 3;");
        fails("bins a from 1 to !2147483648 in 3;");
    }

    private static void conditions() {
        isRead("let g = not not [[a = 1] or not [b = 2 and c = 3]];", 1);
        isRead("let g = a = 1 and b = 2 or c = 3 and d = 4;", 1);
        fails("let g = a = 1 and !;");
        fails("let g = a = 1 !not b = 2;");
        fails("let g = a = 1 or !or b = 2;");
        fails("let g = !and b = 2;");
        fails("let g = [a = 1!;");
        fails("let g = a = 1!];");
        fails("let g = [a !];");
        fails("let g = [!];");
        fails("let g = [a = 1!);");
        fails("let g = (a != 1);");
        fails("let g = [a = 1] != 1;");
        fails("let g = not !;");
        fails("let g = !;");
        fails("let g = a !;");
        fails("let g = a !and b = 1;");
        fails("let g = a < b !< c;");
        fails("let g = not a !;");
        fails("let g = a = ![b = 1];");
        fails("let g = a = !not b = 1;");
        fails("let g = a = 1 ![b = 1];");
        fails("let g = a + ![b] = 1;");
    }

    private static void sums() {
        isRead("let g = - - a * - ( b + c - 2 ) * 3 - - 1 + 0 >= ( ( 4 ) );", 1);
        fails("let g = a + !+ b = 1;");
        fails("let g = !+ b = 1;");
        fails("let g = a * !* b = 1;");
        fails("let g = !* b = 1;");
        fails("let g = a !b = 1;");
        fails("let g = a !1 = 1;");
        fails("let g = 2 !a = 1;");
        fails("let g = (a !> 1);");
        fails("let g = (a!;");
        fails("let g = (!) = 1;");
        fails("let g = a!) = 1;");
        fails("let g = (a!] = 1;");
        fails("let g = a - != 1;");
        fails("let g = - !;");
        fails("let g = a = 1 + !;");
        fails("let g = a = 1 !g;");
        fails("let g = a = (1 !and b = 1);");
    }

    private static void tooMany() {
        StringBuilder lets = new StringBuilder();
        for (char name = 'g'; name < 'q'; name++) {
            lets.append("let ").append(name).append("=a=1;");
        }
        isRead(lets.toString(), 10);
        isRead(lets + "count in 0;".repeat(12), 22);
        fails(lets + "!let q=a=1;");
        fails(lets + "!let");
        fails(lets + "count in 0;".repeat(12) + "!let q=a=1;");
        isRead("count in 0;".repeat(12), 12);
        fails("count in 0;".repeat(12) + "!count in 0;");
        fails("count in 0;".repeat(12) + "!sum");
        fails("count in 0;".repeat(12) + "!bins");
        isRead("count in 0;sum a to 1 in 0;bins a from 1 to 1 in 0;".repeat(4) + "let g=a=1;", 13);
        fails("count in 0;sum a to 1 in 0;bins a from 1 to 1 in 0;".repeat(4) + "let g=a=1;!sum a to 1 in 0;");
    }

    private static void tooDeep() {
        isRead("let g=" + "[".repeat(20) + "a=1" + "]".repeat(20) + ";", 1);
        fails("let g=" + "[".repeat(20) + "![a=1]" + "]".repeat(20) + ";");
        isRead("let g=" + "(".repeat(20) + "a" + ")".repeat(20) + "=1;", 1);
        fails("let g=" + "(".repeat(20) + "!(a)" + ")".repeat(20) + "=1;");
        isRead("let g=a=" + "-".repeat(20) + "a;", 1);
        fails("let g=a=" + "-".repeat(20) + "!-a;");
        isRead("let g=" + "not ".repeat(20) + "a=1;", 1);
        fails("let g=" + "not ".repeat(20) + "!not a=1;");
        isRead("let g=" + "not[".repeat(8) + "-(-(a))=1" + "]".repeat(8) + ";", 1);
        fails("let g=" + "not[".repeat(8) + "-(-(!-a))=1" + "]".repeat(8) + ";");
        fails("let g=" + "not[".repeat(8) + "1=-(-(!(a)))" + "]".repeat(8) + ";");
        fails("let g=" + "not[".repeat(10) + "a=!-1" + "]".repeat(10) + ";");
        fails("let g=" + "not[".repeat(10) + "!not a=1" + "]".repeat(10) + ";");
        isRead("let g=" + "not[".repeat(10) + "a-1=1" + "]".repeat(10) + ";", 1);
        isRead("let g=" + "not ".repeat(20) + "a=1 and " + "not ".repeat(20) + "a=1;", 1);
        isRead("let g=" + "-".repeat(20) + "a*" + "-".repeat(20) + "a-" + "-".repeat(20) + "1=" + "-".repeat(20) + "1;", 1);
        isRead("let g=" + "[".repeat(20) + "a=1" + "]".repeat(20) + "or" + "[".repeat(20) + "a=1" + "]".repeat(20) + ";", 1);
        fails("count where[" + "(".repeat(19) + "!(");
        fails("let g=" + "[".repeat(20) + "![" + "[".repeat(1900));
    }

    /** Each a=1or has two of the 150. */
    private static void tooManyJoints() {
        isRead("let g=" + "a=1or ".repeat(74) + "a=1;", 1);
        isRead("let g=" + "a=1or ".repeat(74) + "a=1;count where a=1 in 3;", 2);
        fails("let g=" + "a=1or ".repeat(74) + "a=1;count where a=1 !or b=1 in 3;");
        fails("let g=" + "a=1or ".repeat(74) + "a=1;count where a=1 in 3;count where a!=1 in 3;");
        fails("let g=" + "a=1or ".repeat(75) + "a!=1;");
        fails("let g=" + "a=1or ".repeat(74) + "a<2 or b!<2;");
        isRead("let g=a=1;count where " + "g and ".repeat(74) + "g in 3;", 2);
        fails("let g=a=1;count where " + "g and ".repeat(74) + "g !and g in 3;");
        isRead("let g=a=1;let h=a=1;count where " + "g and ".repeat(73) + "g in 3;", 3);
        fails("let g=a=1;let h=a=1;count where " + "g and ".repeat(74) + "!g in 3;");
        fails("let g=a=1;let h=a=1;count where " + "g and ".repeat(73) + "g in 3;count where g !or h in 3;");
        isRead("let g=a=1;" + "count where g and g in 3;".repeat(11) + "let h=g" + " or g".repeat(57) + ";", 13);
        fails("let g=a=1;" + "count where g and g in 3;".repeat(11) + "let h=g" + " or g".repeat(57) + " or !g;");
        fails("let g=a=1;" + "count where g and g in 3;".repeat(11) + "let h=g" + " or g".repeat(57) + ";let i=g;let j=!g;");
    }

    private static void faultsLeaveTheScript() {
        PrivateQueries x = new PrivateQueries(1, 2);
        CHECK.due("read()", 2, Check.read(x, "let g=a=1;sum b to 7 where g in 5;"));
        CHECK.due("a fault at its end", -1059,
            Check.read(x, "let h=b=2;let g=h;count where h in 3;count in 4;bins a from"));
        CHECK.due("questions", 1, x.count(3));
        CHECK.due("lets", 1, x.count(4));
        CHECK.due("units", 7, x.wants(0));
        CHECK.due("its script", "let g = a = 1 ; sum b to 7 where g in 5 ;", Check.out(x, x.print()));
        CHECK.due("no text any more", -1000, x.read());
        CHECK.due("another", 1, Check.read(x, "count in 4;"));
        CHECK.due("questions", 1, x.count(3));
        CHECK.due("lets", 0, x.count(4));
        CHECK.due("units", 1, x.wants(0));
        CHECK.due("its script", "count in 4 ;", Check.out(x, x.print()));
    }
}
