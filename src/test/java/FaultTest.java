/** Promise 9 read: each limit that the document names among the FAULTS, at its last and first values. */
public final class FaultTest {
    private static final Check CHECK = new Check();

    public static void main(String[] args) {
        nameToldBefore();
        nameNotTold();
        toOfSum();
        byOfSum();
        inOfQuestions();
        fromAboveTo();
        twentyBins();
        tenLets();
        twelveQuestions();
        withinTwentyOfOneSort();
        withinTwentyOfAllSorts();
        depthEnds();
        minusThatCountsNot();
        comparisonsUpTo150();
        namesUpTo150();
        andsAndOrsUpTo150();
        countedOverTheScript();
        CHECK.end();
    }

    private static void isRead(String text, int want) {
        ReadCheck.isRead(CHECK, text, want);
    }

    private static void fails(String marked) {
        ReadCheck.fails(CHECK, marked);
    }

    private static void nameToldBefore() {
        CHECK.says("a NAME behind let that was told before");
        isRead("let g = a = 1; let h = a = 1;", 2);
        fails("let g = a = 1; let !g = a = 1;");
        fails("let g = a = 1; let h = g; let !g = h;");
        fails("let z = a = 1; count in 0; let !z = a = 1;");
    }

    private static void nameNotTold() {
        CHECK.says("one in a COND that was not (also its own)");
        isRead("let g = a = 1; let h = g; count where g and h in 3;", 3);
        fails("let g = !h;");
        fails("let g = !h; let h = a = 1;");
        fails("count where !g in 3; let g = a = 1;");
        fails("let h = a = 1; count where h or !g in 3;");
        fails("let g = !g;");
        fails("let g = a = 1 and !g;");
        fails("let g = not [!g];");
    }

    private static void toOfSum() {
        CHECK.says("to of sum: 1 .. 1000");
        fails("sum a to !0 in 3;");
        isRead("sum a to 1 in 3;", 1);
        isRead("sum a to 1000 in 3;", 1);
        isRead("sum a to 0001000 in 3;", 1);
        fails("sum a to !1001 in 3;");
        fails("sum a to !2147483647 in 3;");
    }

    private static void byOfSum() {
        CHECK.says("by: 1 .. 1000");
        fails("sum a to 3 by !0 in 3;");
        isRead("sum a to 3 by 1 in 3;", 1);
        isRead("sum a to 3 by 1000 in 3;", 1);
        fails("sum a to 3 by !1001 in 3;");
        fails("sum a to 3 by !2147483647 in 3;");
    }

    private static void inOfQuestions() {
        CHECK.says("in: 0 .. 30");
        String[] heads = {"count ", "sum a to 3 ", "sum a to 3 by 2 where a = 1 ", "bins a from 1 to 2 ", "count where a = 1 "};
        for (String head : heads) {
            isRead(head + "in 0;", 1);
            isRead(head + "in 30;", 1);
            fails(head + "in !31;");
            fails(head + "in !2147483647;");
        }
    }

    private static void fromAboveTo() {
        CHECK.says("to of bins (at its N): from is not above it");
        isRead("bins a from 5 to 5 in 3;", 1);
        fails("bins a from 5 to !4 in 3;");
        isRead("bins a from 0 to 0 in 3;", 1);
        fails("bins a from 0 to - !1 in 3;");
        isRead("bins a from -1 to -1 in 3;", 1);
        fails("bins a from -1 to -!2 in 3;");
        fails("bins a from 2147483647 to !2147483646 in 3;");
        fails("bins a from 2147483647 to -!2147483647 in 3;");
        isRead("bins a from -2147483647 to -2147483647 in 3;", 1);
        fails("bins a from -2147483646 to - !2147483647 in 3;");
    }

    private static void twentyBins() {
        CHECK.says("and they have 20 bins at most");
        isRead("bins a from 0 to 19 in 3;", 1);
        fails("bins a from 0 to !20 in 3;");
        isRead("bins a from -19 to 0 in 3;", 1);
        fails("bins a from -20 to !0 in 3;");
        fails("bins a from -20 to -!0 in 3;");
        isRead("bins a from -10 to 9 in 3;", 1);
        fails("bins a from -10 to !10 in 3;");
        isRead("bins a from -30 to -11 in 3;", 1);
        fails("bins a from -30 to - !10 in 3;");
        isRead("bins a from 2147483628 to 2147483647 in 3;", 1);
        fails("bins a from 2147483627 to !2147483647 in 3;");
        isRead("bins a from -2147483647 to -2147483628 in 3;", 1);
        fails("bins a from -2147483647 to -!2147483627 in 3;");
        fails("bins a from -2147483647 to !2147483647 in 3;");
    }

    private static void tenLets() {
        CHECK.says("let NAME = COND               (10 at most)");
        String ten = ReadCheck.lets(10);
        isRead(ten, 10);
        isRead(ten + "count in 0;", 11);
        CHECK.says("let or the word of a question, if there would be more of these than told");
        fails(ten + "!let q=a=1;");
        fails(ten + "!let");
        fails(ten + "!let g=a=1;");
        fails(ten + "count in 0;!let q=a=1;");
        fails(ten + "count in 0;".repeat(12) + "!let q=a=1;");
    }

    private static void twelveQuestions() {
        CHECK.says("(QUESTIONS, 12 at most)");
        String three = "count in 0;sum a to 1 in 0;bins a from 1 to 1 in 0;";
        isRead(three.repeat(4), 12);
        isRead(three.repeat(4) + "let g=a=1;", 13);
        isRead("count in 0;".repeat(12), 12);
        CHECK.says("let or the word of a question, if there would be more of these than told");
        fails(three.repeat(4) + "!count in 0;");
        fails(three.repeat(4) + "!sum a to 1 in 0;");
        fails(three.repeat(4) + "!bins a from 1 to 1 in 0;");
        fails(three.repeat(4) + "!count");
        fails(three.repeat(4) + "let g=a=1;!sum a to 1 in 0;");
        fails("count in 0;".repeat(12) + "!count in 0;");
        fails("count in 0;".repeat(12) + "!in 0;");
        fails(ReadCheck.lets(10) + "count in 0;".repeat(12) + "!count in 0;");
    }

    private static void withinTwentyOfOneSort() {
        CHECK.says("a ( [ not or - (of a FACTOR) that would be within 20 of these others");
        isRead("let g=" + "[".repeat(20) + "a=1" + "]".repeat(20) + ";", 1);
        fails("let g=" + "[".repeat(20) + "![a=1]" + "]".repeat(20) + ";");
        isRead("let g=" + "(".repeat(20) + "a" + ")".repeat(20) + "=1;", 1);
        fails("let g=" + "(".repeat(20) + "!(a)" + ")".repeat(20) + "=1;");
        isRead("let g=a=" + "(".repeat(20) + "a" + ")".repeat(20) + ";", 1);
        fails("let g=a=" + "(".repeat(20) + "!(a)" + ")".repeat(20) + ";");
        isRead("let g=" + "-".repeat(20) + "a=1;", 1);
        fails("let g=" + "-".repeat(20) + "!-a=1;");
        isRead("let g=a=" + "-".repeat(20) + "a;", 1);
        fails("let g=a=" + "-".repeat(20) + "!-a;");
        isRead("let g=" + "not ".repeat(20) + "a=1;", 1);
        fails("let g=" + "not ".repeat(20) + "!not a=1;");
        isRead("count where " + "not ".repeat(20) + "a=1 in 0;", 1);
        fails("count where " + "not ".repeat(20) + "!not a=1 in 0;");
    }

    private static void withinTwentyOfAllSorts() {
        CHECK.says("that would be within 20 of these others");
        String nineteen = "not[".repeat(9) + "not ";
        String closed = "]".repeat(9) + ";";
        isRead("let g=" + nineteen + "[a=1]" + closed, 1);
        isRead("let g=" + nineteen + "not a=1" + closed, 1);
        isRead("let g=" + nineteen + "(a)=1" + closed, 1);
        isRead("let g=" + nineteen + "a=-1" + closed, 1);
        fails("let g=" + nineteen + "[![a=1]]" + closed);
        fails("let g=" + nineteen + "[!not a=1]" + closed);
        fails("let g=" + nineteen + "[!(a)=1]" + closed);
        fails("let g=" + nineteen + "[a=!-1]" + closed);
        fails("let g=" + nineteen + "not ![a=1]" + closed);
        fails("let g=" + nineteen + "not a=!(1)" + closed);
        fails("let g=" + nineteen + "(!(a))=1" + closed);
        fails("let g=" + nineteen + "(!-a)=1" + closed);
        fails("let g=" + nineteen + "a=-!(1)" + closed);
        fails("let g=" + nineteen + "a=-!-1" + closed);
        isRead("let g=" + "not[".repeat(8) + "-(-(a))=1" + "]".repeat(8) + ";", 1);
        fails("let g=" + "not[".repeat(8) + "-(-(!-a))=1" + "]".repeat(8) + ";");
        fails("count where[" + "(".repeat(19) + "!(");
        fails("let g=" + "[".repeat(20) + "![" + "[".repeat(1900));
    }

    /** What stands beside others, or behind them, is not within them. */
    private static void depthEnds() {
        CHECK.says("that would be within 20 of these others");
        String nots = "not ".repeat(20) + "a=1";
        String minuses = "-".repeat(20) + "a";
        String squares = "[".repeat(20) + "a=1" + "]".repeat(20);
        String rounds = "(".repeat(20) + "a" + ")".repeat(20);
        isRead("let g=" + nots + " and " + nots + " or " + nots + ";", 1);
        isRead("let g=" + minuses + "*" + minuses + "-" + minuses + "=" + minuses + ";", 1);
        isRead("let g=" + squares + "or" + squares + "and" + squares + ";", 1);
        isRead("let g=" + rounds + "+" + rounds + "=" + rounds + ";", 1);
        isRead("let g=" + squares + ";let h=" + nots + ";count where " + rounds + "=1 in 0;", 3);
        fails("let g=" + squares + "or" + "[".repeat(20) + "a=1 and !not a=1" + "]".repeat(20) + ";");
        isRead("let g=not[" + "not ".repeat(18) + "a=1 and " + "not ".repeat(18) + "a=1];", 1);
        fails("let g=not[" + "not ".repeat(18) + "a=1 and " + "not ".repeat(18) + "!not a=1];");
    }

    private static void minusThatCountsNot() {
        CHECK.says("- (of a FACTOR)");
        isRead("let g=" + "not[".repeat(10) + "a-1=1" + "]".repeat(10) + ";", 1);
        fails("let g=" + "not[".repeat(10) + "a- !-1=1" + "]".repeat(10) + ";");
        isRead("let g=a" + "-a".repeat(100) + "=1;", 1);
        isRead("let g=a=1" + "-1".repeat(100) + ";", 1);
    }

    private static void comparisonsUpTo150() {
        CHECK.says("a comparison's sign");
        for (String sign : new String[] {"<", ">", "=", "<=", ">=", "<>"}) {
            String one = "a" + sign + "1or ";
            isRead("let g=" + one.repeat(74) + "a=1;count where a" + sign + "1 in 3;", 2);
            fails("let g=" + one.repeat(74) + "a=1;count where a" + sign + "1 in 3;count where a!" + sign + "1 in 3;");
            fails("let g=" + one.repeat(75) + "a!" + sign + "1;");
        }
    }

    private static void namesUpTo150() {
        CHECK.says("a NAME in a COND");
        isRead("let g=a=1;let h=a=1;count where " + "g and ".repeat(73) + "g in 3;count where g in 3;", 4);
        fails("let g=a=1;let h=a=1;count where " + "g and ".repeat(73) + "g in 3;count where g in 3;count where !g in 3;");
        fails("let g=a=1;let h=a=1;count where " + "g and ".repeat(74) + "!g in 3;");
        fails("let g=a=1;let h=a=1;count where " + "g and ".repeat(74) + "!h in 3;");
        fails("let g=a=1;count where " + "g and ".repeat(74) + "g in 3;let h=1!");
    }

    private static void andsAndOrsUpTo150() {
        CHECK.says("and and or with which the script would have more than 150 of all these");
        String used = "let g=a=1;let h=a=1;count where " + "g and ".repeat(73) + "g in 3;";
        isRead(used + "let i=a=1;", 4);
        fails(used + "let i=a=1 !and a=1;");
        fails(used + "let i=a=1 !or a=1;");
        fails(used + "count where g !and h in 3;");
        fails(used + "count where g !or h in 3;");
        fails("let g=a=1;count where " + "g and ".repeat(74) + "g !and g in 3;");
        fails("let g=a=1;count where " + "g and ".repeat(74) + "g !or g in 3;");
        fails("let g=" + "a=1or ".repeat(74) + "a=1;count where a=1 !or b=1 in 3;");
        fails("let g=" + "a=1or ".repeat(74) + "a=1;count where a=1 !and b=1 in 3;");
    }

    /** 1 and 11 times 3 and 58 and 57 are 149. */
    private static void countedOverTheScript() {
        CHECK.says("of all these");
        String text = "let g=a=1;" + "count where g and g in 3;".repeat(11) + "let h=g" + " or g".repeat(57);
        isRead(text + ";", 13);
        isRead(text + ";let i=g;", 14);
        fails(text + " or !g;");
        fails(text + ";let i=g;let j=!g;");
        fails(text + ";let i=g;sum a to 1 where a!=1 in 3;");
        fails(text + ";let i=g;bins a from 1 to 1 where a!<1 in 3;");
    }
}
