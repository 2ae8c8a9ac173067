import java.util.Arrays;

/**
 * Questions to a table of which only counts, clamped sums and bins are told, each with noise from
 * a tape of cells and at a price. The document that it keeps to is ../shared/DOC.md.
 */
public final class PrivateQueries {
    public static final int NONE = -1;
    public static final int UNKNOWN = -101, OUTSIDE = -102, STATE = -103, POOR = -104, SHORT = -105, ROOM = -106;

    private static final int MOST_TOP = 30;
    private static final int FAULT = -1000;

    private final int p;
    private final int q;
    private final Table table;
    private final Tape tape;
    private final Purses purses;
    private final Text text;
    private final Out written;
    private final Product product;
    private final int[] toldNumbers;
    private int toldSize;
    /** Two scripts, made once: a reading fills the spare one, so that a fault leaves the other as it was. */
    private Script script;
    private Script spare;
    private boolean hasScript;

    public PrivateQueries(int p, int q) {
        this.p = nearest(p, 1, 999);
        this.q = nearest(q, this.p + 1, 1000);
        table = new Table();
        tape = new Tape(this.p, this.q);
        purses = new Purses();
        text = new Text();
        written = new Out();
        product = new Product();
        toldNumbers = new int[Script.MOST_NUMBERS];
        toldSize = 0;
        script = new Script();
        spare = new Script();
        hasScript = false;
    }

    public int row(int a, int b, int c, int d, int e, int f) {
        if (table.size() >= Table.MOST_ROWS) {
            return ROOM;
        }
        table.add(a, b, c, d, e, f);
        return table.size() - 1;
    }

    public int drop(int row) {
        if (row < 0 || row >= table.size()) {
            return UNKNOWN;
        }
        table.remove(row);
        return table.size();
    }

    public int draws(int first, int second) {
        boolean two = second != NONE;
        if (!tape.isCell(first) || two && !tape.isCell(second)) {
            return OUTSIDE;
        }
        if (tape.size() + (two ? 2 : 1) > Tape.MOST_CELLS) {
            return ROOM;
        }
        tape.add(first);
        if (two) {
            tape.add(second);
        }
        return tape.size();
    }

    public int count(int what) {
        switch (what) {
            case 0:
                return table.size();
            case 1:
                return tape.size();
            case 2:
                return text.size();
            case 3:
                return hasScript ? script.asked() : 0;
            case 4:
                return hasScript ? script.lets() : 0;
            case 5:
                return toldSize;
            default:
                return OUTSIDE;
        }
    }

    public int budget(int whose, int units) {
        if (!Purses.isKnown(whose)) {
            return UNKNOWN;
        }
        if (units < 0 || units > Purses.MOST_UNITS) {
            return OUTSIDE;
        }
        if (units < purses.spentBy(whose)) {
            return STATE;
        }
        int before = purses.grantedTo(whose);
        purses.grant(whose, units);
        return before;
    }

    public int ledger(int whose, int what) {
        if (!Purses.isKnown(whose)) {
            return UNKNOWN;
        }
        if (what < 0 || what > 1) {
            return OUTSIDE;
        }
        return what == 0 ? purses.spentBy(whose) : purses.leftTo(whose);
    }

    public int type(long signs, int n) {
        if (n < 1 || n > Text.MOST_AT_ONCE || !Text.areSigns(signs, n)) {
            return OUTSIDE;
        }
        if (text.size() + n > Text.MOST_SIGNS) {
            return ROOM;
        }
        text.add(signs, n);
        return text.size();
    }

    public int read() {
        spare.cut(text);
        text.clear();
        int fault = new Parser(spare).parse();
        if (fault != NONE) {
            return FAULT - fault;
        }
        Script before = script;
        script = spare;
        spare = before;
        hasScript = true;
        return script.asked() + script.lets();
    }

    public int question(int i, int what) {
        if (!hasScript || i < 0 || i >= script.asked()) {
            return UNKNOWN;
        }
        return script.questionAt(i).part(what);
    }

    public int wants(int what) {
        if (what < 0 || what > 2) {
            return OUTSIDE;
        }
        if (!hasScript) {
            return STATE;
        }
        if (what == 0) {
            return script.all(Question.UNITS);
        }
        return script.all(what == 1 ? Question.NUMBERS : Question.CELLS);
    }

    public int run(int asker) {
        if (!Purses.isAsker(asker)) {
            return UNKNOWN;
        }
        if (!hasScript) {
            return STATE;
        }
        int units = script.all(Question.UNITS);
        if (units > purses.leftTo(asker) || units > purses.leftTo(Purses.HOUSE)) {
            return POOR;
        }
        if (script.all(Question.CELLS) > tape.size()) {
            return SHORT;
        }
        purses.spend(asker, units);
        purses.spend(Purses.HOUSE, units);
        script.work(table, toldNumbers);
        toldSize = script.all(Question.NUMBERS);
        tape.remove(blur());
        return toldSize;
    }

    public int told(int i) {
        return i >= 0 && i < toldSize && i < toldNumbers.length ? toldNumbers[i] : NONE;
    }

    public int noise(int from, int top) {
        if (!isUpTo(top, MOST_TOP) || from < 0) {
            return OUTSIDE;
        }
        if (from > tape.size() - (top + 1)) {
            return SHORT;
        }
        return tape.blockNoise(from, top);
    }

    public int print() {
        if (!hasScript) {
            return STATE;
        }
        written.clear();
        script.writeInto(written);
        return written.size();
    }

    public int share(int a, int o, int top) {
        if (!isUpTo(top, MOST_TOP) || !isUpTo(a, top) || !isUpTo(o, top)) {
            return OUTSIDE;
        }
        workOutShare(a, o, top);
        written.clear();
        product.writeInto(written);
        return written.size();
    }

    public int out(int i) {
        return written.signAt(i);
    }

    /**
     * The shares need no look. Every share of A and O is P to the power |A - O| times Q to a power,
     * the two powers having one sum for all A, times a factor that depends on O and TOP alone. With
     * |b - O| at most |a - O| + |a - b| and P below Q, the promise follows for every O.
     */
    public boolean within(int a, int b, int top) {
        return isUpTo(top, MOST_TOP) && isUpTo(a, top) && isUpTo(b, top);
    }

    private static int nearest(int number, int least, int most) {
        return Math.max(least, Math.min(most, number));
    }

    private static boolean isUpTo(int number, int most) {
        return number >= 0 && number <= most;
    }

    /** Puts the noise of block after block upon the numbers in their order: how many cells that took. */
    private int blur() {
        int cell = 0;
        int number = 0;
        for (int i = 0; i < script.asked(); i++) {
            Question one = script.questionAt(i);
            for (int j = 0; j < one.numbers() && number < toldNumbers.length; j++) {
                int near = nearest(toldNumbers[number], 0, one.top);
                toldNumbers[number] = nearest(near + tape.blockNoise(cell, one.top), 0, one.top);
                cell += one.top + 1;
                number++;
            }
        }
        return cell;
    }

    /**
     * At 0 and at TOP all the noise beyond is gathered: the sizes from k on have together
     * P^k Q^(TOP + 1 - k), where size k alone has (Q - P) P^k Q^(TOP - k).
     */
    private void workOutShare(int a, int o, int top) {
        int apart = Math.abs(a - o);
        product.startAtOne();
        if (top == 0) {
            product.times(p + q, 1);
            return;
        }
        boolean atEdge = o == 0 || o == top;
        product.times(atEdge ? q : q - p, 1);
        product.times(p, apart);
        product.times(q, top - apart);
    }

    /** The rows, one behind the other in one array. */
    private static final class Table {
        static final int MOST_ROWS = 60;
        static final int COLUMNS = 6;

        private final int[] numbers;
        private int rows;

        Table() {
            numbers = new int[MOST_ROWS * COLUMNS];
            rows = 0;
        }

        int size() {
            return rows;
        }

        void add(int a, int b, int c, int d, int e, int f) {
            int start = rows * COLUMNS;
            if (start < 0 || start > numbers.length - COLUMNS) {
                return;
            }
            numbers[start] = a;
            numbers[start + 1] = b;
            numbers[start + 2] = c;
            numbers[start + 3] = d;
            numbers[start + 4] = e;
            numbers[start + 5] = f;
            rows++;
        }

        void remove(int row) {
            if (row < 0 || row >= rows) {
                return;
            }
            int behind = (row + 1) * COLUMNS;
            System.arraycopy(numbers, behind, numbers, row * COLUMNS, rows * COLUMNS - behind);
            rows--;
        }

        int at(int row, int column) {
            int place = row * COLUMNS + column;
            return place >= 0 && place < numbers.length ? numbers[place] : 0;
        }
    }

    /** The cells that are there still, the front one at 0, and the noise that blocks of them tell. */
    private static final class Tape {
        static final int MOST_CELLS = 3000;

        private final int p;
        private final int q;
        private final int[] cells;
        private int size;

        Tape(int p, int q) {
            this.p = p;
            this.q = q;
            cells = new int[MOST_CELLS];
            size = 0;
        }

        int size() {
            return size;
        }

        boolean isCell(int number) {
            return number >= 0 && number < q * (p + q);
        }

        void add(int cell) {
            if (size < cells.length) {
                cells[size] = cell;
                size++;
            }
        }

        /** Takes cells away at the front. */
        void remove(int howMany) {
            if (howMany < 0 || howMany > size) {
                return;
            }
            System.arraycopy(cells, howMany, cells, 0, size - howMany);
            size -= howMany;
        }

        int blockNoise(int from, int top) {
            int none = q * (q - p);
            int first = at(from);
            if (first < none) {
                return 0;
            }
            int amount = 1;
            for (int i = 1; i <= top && at(from + i) < p * (p + q); i++) {
                amount++;
            }
            return first < none + p * q ? amount : -amount;
        }

        private int at(int place) {
            return place >= 0 && place < size ? cells[place] : 0;
        }
    }

    /** What the askers and the house were granted and have spent. */
    private static final class Purses {
        static final int HOUSE = 4;
        static final int MOST_UNITS = 1000000;

        private final int[] granted;
        private final int[] spent;

        Purses() {
            granted = new int[HOUSE + 1];
            spent = new int[HOUSE + 1];
        }

        static boolean isAsker(int whose) {
            return whose >= 0 && whose < HOUSE;
        }

        static boolean isKnown(int whose) {
            return whose >= 0 && whose <= HOUSE;
        }

        int grantedTo(int whose) {
            return isKnown(whose) ? granted[whose] : 0;
        }

        int spentBy(int whose) {
            return isKnown(whose) ? spent[whose] : 0;
        }

        int leftTo(int whose) {
            return grantedTo(whose) - spentBy(whose);
        }

        void grant(int whose, int units) {
            if (isKnown(whose)) {
                granted[whose] = units;
            }
        }

        void spend(int whose, int units) {
            if (isKnown(whose)) {
                spent[whose] += units;
            }
        }
    }

    /** The signs that were typed and not read yet. */
    private static final class Text {
        static final int MOST_SIGNS = 2000;
        /** As many as a long has bytes. */
        static final int MOST_AT_ONCE = 8;

        private final char[] signs;
        private int size;

        Text() {
            signs = new char[MOST_SIGNS];
            size = 0;
        }

        static boolean areSigns(long bytes, int n) {
            for (int i = 0; i < n; i++) {
                int one = byteOf(bytes, i);
                if (one < ' ' || one > '~') {
                    return false;
                }
            }
            return true;
        }

        private static int byteOf(long bytes, int fromLowest) {
            return (int) (bytes >>> (8 * fromLowest)) & 255;
        }

        int size() {
            return size;
        }

        void clear() {
            size = 0;
        }

        void add(long bytes, int n) {
            for (int i = n - 1; i >= 0 && size < signs.length; i--) {
                signs[size] = (char) byteOf(bytes, i);
                size++;
            }
        }

        /** The sign at a place; 0, which is no sign, beyond the end. */
        char at(int place) {
            return place >= 0 && place < size ? signs[place] : 0;
        }

        boolean isLetter(int place) {
            char sign = at(place);
            return sign >= 'a' && sign <= 'z';
        }

        boolean isDigit(int place) {
            char sign = at(place);
            return sign >= '0' && sign <= '9';
        }

        boolean spells(String word, int place) {
            for (int i = 0; i < word.length(); i++) {
                if (at(place + i) != word.charAt(i)) {
                    return false;
                }
            }
            return true;
        }
    }

    /** What was written last, by print or by share. */
    private static final class Out {
        /** A text of signs that are all tokens, with a space between each two. */
        static final int MOST_SIGNS = 2 * Text.MOST_SIGNS;

        private final char[] signs;
        private int size;

        Out() {
            signs = new char[MOST_SIGNS];
            size = 0;
        }

        int size() {
            return size;
        }

        int signAt(int i) {
            return i >= 0 && i < size ? signs[i] : NONE;
        }

        void clear() {
            size = 0;
        }

        void add(char sign) {
            if (size < signs.length) {
                signs[size] = sign;
                size++;
            }
        }

        void addWord(String word) {
            for (int i = 0; i < word.length(); i++) {
                add(word.charAt(i));
            }
        }

        void addNumber(int number) {
            for (int power = 1000000000; power > 0; power /= 10) {
                if (number >= power || power == 1) {
                    add((char) ('0' + number / power % 10));
                }
            }
        }
    }

    /** A product of small factors, digit by digit, as no long could hold it. */
    private static final class Product {
        /** Shares are at most 1000^31, which has 94 digits. */
        static final int MOST_DIGITS = 96;

        /** The lowest digit first. */
        private final int[] digits;
        private int size;

        Product() {
            digits = new int[MOST_DIGITS];
            size = 0;
        }

        void startAtOne() {
            digits[0] = 1;
            size = 1;
        }

        void times(int factor, int howOften) {
            for (int i = 0; i < howOften; i++) {
                timesOnce(factor);
            }
        }

        private void timesOnce(int factor) {
            int carried = 0;
            for (int i = 0; i < digits.length && (i < size || carried > 0); i++) {
                int here = (i < size ? digits[i] * factor : 0) + carried;
                digits[i] = here % 10;
                carried = here / 10;
                size = Math.max(size, i + 1);
            }
        }

        void writeInto(Out written) {
            for (int i = Math.min(size, digits.length) - 1; i >= 0; i--) {
                written.add((char) ('0' + digits[i]));
            }
        }
    }

    /** The tokens of a text, up to the first one that is none. */
    private static final class Tokens {
        static final int END = 0, BAD = 1, NUMBER = 2, COLUMN = 3, NAME = 4;
        static final int LET = 5, COUNT = 6, SUM = 7, BINS = 8, FROM = 9, TO = 10, BY = 11, WHERE = 12, IN = 13;
        static final int AND = 14, OR = 15, NOT = 16;
        /** The signs of two come first: they are tried in this order, and a token goes as long as it can. */
        static final int AT_MOST = 17, AT_LEAST = 18, UNEQUAL = 19, LESS = 20, MORE = 21, EQUAL = 22;
        static final int PLUS = 23, MINUS = 24, TIMES = 25, SEMICOLON = 26;
        static final int OPEN = 27, CLOSE = 28, OPEN_SQUARE = 29, CLOSE_SQUARE = 30;
        static final int MOST_NUMBER = 2147483647;

        final int[] kinds;
        /** The number of a NUMBER; of a COLUMN and of a NAME how far its letter is from a. */
        final int[] values;
        final int[] places;
        /** How many there are; behind them stands one more, END or BAD. */
        private int size;

        Tokens() {
            kinds = new int[Text.MOST_SIGNS + 1];
            values = new int[Text.MOST_SIGNS + 1];
            places = new int[Text.MOST_SIGNS + 1];
            size = 0;
        }

        private int kindAt(int i) {
            return i >= 0 && i < kinds.length ? kinds[i] : END;
        }

        private int valueAt(int i) {
            return i >= 0 && i < values.length ? values[i] : 0;
        }

        void cut(Text text) {
            size = 0;
            int place = 0;
            while (place < text.size()) {
                if (text.at(place) == ' ') {
                    place++;
                    continue;
                }
                int length = cutOne(text, place);
                if (length < 1) {
                    put(BAD, 0, place);
                    return;
                }
                size++;
                place += length;
            }
            put(END, 0, text.size());
        }

        /** How long the token is that begins at the place; 0 if there is none. */
        private int cutOne(Text text, int place) {
            if (text.isLetter(place)) {
                return cutWord(text, place);
            }
            return text.isDigit(place) ? cutNumber(text, place) : cutSign(text, place);
        }

        private int cutWord(Text text, int place) {
            int length = 1;
            while (length < Text.MOST_SIGNS && text.isLetter(place + length)) {
                length++;
            }
            if (length == 1) {
                int letter = text.at(place) - 'a';
                put(letter < Table.COLUMNS ? COLUMN : NAME, letter, place);
                return 1;
            }
            for (int kind = LET; kind <= NOT; kind++) {
                String word = spelling(kind);
                if (word.length() == length && text.spells(word, place)) {
                    put(kind, 0, place);
                    return length;
                }
            }
            return 0;
        }

        private int cutNumber(Text text, int place) {
            long number = 0;
            int length = 0;
            while (length < Text.MOST_SIGNS && text.isDigit(place + length)) {
                number = number * 10 + text.at(place + length) - '0';
                if (number > MOST_NUMBER) {
                    return 0;
                }
                length++;
            }
            put(NUMBER, (int) number, place);
            return length;
        }

        private int cutSign(Text text, int place) {
            for (int kind = AT_MOST; kind <= CLOSE_SQUARE; kind++) {
                String sign = spelling(kind);
                if (text.spells(sign, place)) {
                    put(kind, 0, place);
                    return sign.length();
                }
            }
            return 0;
        }

        private void put(int kind, int value, int place) {
            if (size < kinds.length && size < values.length && size < places.length) {
                kinds[size] = kind;
                values[size] = value;
                places[size] = place;
            }
        }

        void writeInto(Out written) {
            for (int i = 0; i < size; i++) {
                if (isIdle(i) || isIdle(i - 1)) {
                    continue;
                }
                if (i > 0) {
                    written.add(' ');
                }
                writeOne(kindAt(i), valueAt(i), written);
            }
        }

        /** Whether this is the by of a by 1. */
        private boolean isIdle(int i) {
            return kindAt(i) == BY && valueAt(i + 1) == 1;
        }

        private static void writeOne(int kind, int value, Out written) {
            switch (kind) {
                case NUMBER:
                    written.addNumber(value);
                    break;
                case COLUMN:
                case NAME:
                    written.add((char) ('a' + value));
                    break;
                default:
                    written.addWord(spelling(kind));
                    break;
            }
        }

        private static String spelling(int kind) {
            switch (kind) {
                case LET: return "let";
                case COUNT: return "count";
                case SUM: return "sum";
                case BINS: return "bins";
                case FROM: return "from";
                case TO: return "to";
                case BY: return "by";
                case WHERE: return "where";
                case IN: return "in";
                case AND: return "and";
                case OR: return "or";
                case NOT: return "not";
                case AT_MOST: return "<=";
                case AT_LEAST: return ">=";
                case UNEQUAL: return "<>";
                case LESS: return "<";
                case MORE: return ">";
                case EQUAL: return "=";
                case PLUS: return "+";
                case MINUS: return "-";
                case TIMES: return "*";
                case SEMICOLON: return ";";
                case OPEN: return "(";
                case CLOSE: return ")";
                case OPEN_SQUARE: return "[";
                case CLOSE_SQUARE: return "]";
                default: return "";
            }
        }
    }

    /** The conditions of a script, operands before operators, and what they say of a row. */
    private static final class Conditions {
        /** Every step comes from a token of its own. */
        static final int MOST_STEPS = Text.MOST_SIGNS;
        /** The - of a FACTOR, as no kind of token tells it from the other -. */
        static final int NEGATE = -1;
        /** Each of 20 brackets leaves two operands to wait, and so do the COND, and the SUM, around all: below 50. */
        static final int MOST_HEIGHT = 64;

        /** Kinds of tokens, or NEGATE. */
        private final int[] steps;
        private final int[] values;
        private int size;
        private final int[] stack;
        private int height;
        /** Which lets hold for the row at hand. */
        private final boolean[] holding;

        Conditions() {
            steps = new int[MOST_STEPS];
            values = new int[MOST_STEPS];
            size = 0;
            stack = new int[MOST_HEIGHT];
            height = 0;
            holding = new boolean[Script.MOST_LETS];
        }

        int size() {
            return size;
        }

        void clear() {
            size = 0;
        }

        void add(int step, int value) {
            if (size < steps.length && size < values.length) {
                steps[size] = step;
                values[size] = value;
                size++;
            }
        }

        /** Lets are worked out once a row: a let that names others again and again would go on for ages. */
        void settle(int let, boolean holds) {
            if (let >= 0 && let < holding.length) {
                holding[let] = holds;
            }
        }

        /** Whether the condition of these steps holds; it does so without any. */
        boolean hold(int start, int end, Table table, int row) {
            if (start >= end) {
                return true;
            }
            height = 0;
            for (int i = Math.max(start, 0); i < end && i < steps.length && i < values.length; i++) {
                take(steps[i], values[i], table, row);
            }
            return pop() != 0;
        }

        private void take(int step, int value, Table table, int row) {
            switch (step) {
                case Tokens.NUMBER:
                    push(value);
                    break;
                case Tokens.COLUMN:
                    push(table.at(row, value));
                    break;
                case Tokens.NAME:
                    push(value >= 0 && value < holding.length && holding[value] ? 1 : 0);
                    break;
                case NEGATE:
                    push(-pop());
                    break;
                case Tokens.NOT:
                    push(1 - pop());
                    break;
                default:
                    int right = pop();
                    int left = pop();
                    push(joined(step, left, right));
                    break;
            }
        }

        private static int joined(int step, int left, int right) {
            switch (step) {
                case Tokens.PLUS:
                    return left + right;
                case Tokens.MINUS:
                    return left - right;
                case Tokens.TIMES:
                    return left * right;
                case Tokens.AND:
                    return left & right;
                case Tokens.OR:
                    return left | right;
                default:
                    return compares(step, left, right) ? 1 : 0;
            }
        }

        private static boolean compares(int step, int left, int right) {
            switch (step) {
                case Tokens.LESS:
                    return left < right;
                case Tokens.MORE:
                    return left > right;
                case Tokens.AT_MOST:
                    return left <= right;
                case Tokens.AT_LEAST:
                    return left >= right;
                case Tokens.EQUAL:
                    return left == right;
                default:
                    return left != right;
            }
        }

        private void push(int number) {
            if (height < stack.length) {
                stack[height] = number;
                height++;
            }
        }

        private int pop() {
            if (height < 1 || height > stack.length) {
                return 0;
            }
            height--;
            return stack[height];
        }
    }

    /** One question, and what can be reckoned from its own words. */
    private static final class Question {
        static final int COUNT = 0, SUM = 1, BINS = 2;
        static final int SORT = 0, UNITS = 1, NUMBERS = 2, TOP = 3, CELLS = 4;

        int sort;
        int column;
        /** The bins from low to high; a sum's numbers are brought to low .. high, which are 0 .. N of to. */
        int low;
        int high;
        int by;
        int top;
        /** The steps of its condition. */
        int start;
        int end;

        Question() {
            by = 1;
        }

        void begin(int newSort) {
            sort = newSort;
            column = 0;
            low = 0;
            high = 0;
            by = 1;
            top = 0;
            start = 0;
            end = 0;
        }

        int part(int what) {
            switch (what) {
                case SORT:
                    return sort;
                case UNITS:
                    return units();
                case NUMBERS:
                    return numbers();
                case TOP:
                    return top;
                case CELLS:
                    return numbers() * (top + 1);
                default:
                    return OUTSIDE;
            }
        }

        private int units() {
            int divisor = Math.max(by, 1);
            return sort == SUM ? (high + divisor - 1) / divisor : 1;
        }

        int numbers() {
            return sort == BINS ? high - low + 1 : 1;
        }

        /** Adds a row that has this number in the column to the numbers that begin at a place. */
        void enter(int number, int[] numbers, int place) {
            int at = place;
            int more = 1;
            if (sort == SUM) {
                more = nearest(number, low, high);
            } else if (sort == BINS) {
                if (number < low || number > high) {
                    return;
                }
                at = place + number - low;
            }
            if (at >= 0 && at < numbers.length) {
                numbers[at] += more;
            }
        }

        /** The sum of all rows is divided, not each number: UNITS, rounded up, are of that. */
        void divide(int[] numbers, int place) {
            if (sort == SUM && by > 1 && place >= 0 && place < numbers.length) {
                numbers[place] /= by;
            }
        }
    }

    /** A script that was read. */
    private static final class Script {
        static final int MOST_LETS = 10;
        static final int MOST_QUESTIONS = 12;
        static final int MOST_BINS = 20;
        static final int MOST_NUMBERS = MOST_QUESTIONS * MOST_BINS;
        static final int LETTERS = 26;

        final Tokens tokens;
        final Conditions conditions;
        private final Question[] questions;
        private int asked;
        /** Where the steps of each let's condition begin and end. */
        private final int[] letStarts;
        private final int[] letEnds;
        /** The let of each letter, or NONE. */
        private final int[] letOfLetter;
        private int lets;

        Script() {
            tokens = new Tokens();
            conditions = new Conditions();
            questions = new Question[MOST_QUESTIONS];
            for (int i = 0; i < questions.length; i++) {
                questions[i] = new Question();
            }
            asked = 0;
            letStarts = new int[MOST_LETS];
            letEnds = new int[MOST_LETS];
            letOfLetter = new int[LETTERS];
            lets = 0;
        }

        /** Forgets all that was there, and has the text's tokens alone. */
        void cut(Text text) {
            tokens.cut(text);
            conditions.clear();
            asked = 0;
            Arrays.fill(letOfLetter, NONE);
            lets = 0;
        }

        int asked() {
            return asked;
        }

        int lets() {
            return lets;
        }

        Question questionAt(int i) {
            return questions[Math.max(0, Math.min(i, questions.length - 1))];
        }

        /** The let that a letter names, or NONE. */
        int letOf(int letter) {
            return letter >= 0 && letter < letOfLetter.length ? letOfLetter[letter] : NONE;
        }

        /** The steps from a start on are the condition of a new let. */
        void addLet(int letter, int start) {
            if (lets >= MOST_LETS || letter < 0 || letter >= letOfLetter.length) {
                return;
            }
            letStarts[lets] = start;
            letEnds[lets] = conditions.size();
            letOfLetter[letter] = lets;
            lets++;
        }

        void addQuestion() {
            asked = Math.min(asked + 1, MOST_QUESTIONS);
        }

        /** Of all questions together: UNITS, NUMBERS or CELLS. */
        int all(int what) {
            int sum = 0;
            for (int i = 0; i < asked; i++) {
                sum += questionAt(i).part(what);
            }
            return sum;
        }

        /** Works out the numbers of all questions, without noise. */
        void work(Table table, int[] numbers) {
            Arrays.fill(numbers, 0);
            for (int row = 0; row < table.size(); row++) {
                settleLets(table, row);
                enterRow(table, row, numbers);
            }
            int place = 0;
            for (int i = 0; i < asked; i++) {
                questionAt(i).divide(numbers, place);
                place += questionAt(i).numbers();
            }
        }

        private void settleLets(Table table, int row) {
            for (int i = 0; i < lets && i < letStarts.length && i < letEnds.length; i++) {
                conditions.settle(i, conditions.hold(letStarts[i], letEnds[i], table, row));
            }
        }

        private void enterRow(Table table, int row, int[] numbers) {
            int place = 0;
            for (int i = 0; i < asked; i++) {
                Question one = questionAt(i);
                if (conditions.hold(one.start, one.end, table, row)) {
                    one.enter(table.at(row, one.column), numbers, place);
                }
                place += one.numbers();
            }
        }

        void writeInto(Out written) {
            tokens.writeInto(written);
        }
    }

    /**
     * Reads the tokens of a script into it. Each part of the grammar is a method that answers
     * whether it stands there; one that does not leaves the token at hand the one at fault.
     */
    private static final class Parser {
        static final int MOST_DEPTH = 20;
        static final int MOST_JOINTS = 150;
        static final int MOST_NUMBER = 1000;

        private final Script script;
        private final Tokens tokens;
        private final Conditions conditions;
        /** The token at hand. None goes behind END or BAD, as these are never taken. */
        private int at;
        /** Comparisons, names in conditions, and and or so far. */
        private int joints;

        Parser(Script script) {
            this.script = script;
            tokens = script.tokens;
            conditions = script.conditions;
            at = 0;
            joints = 0;
        }

        /** The place of the fault, or NONE. */
        int parse() {
            for (int i = 0; i <= Script.MOST_LETS + Script.MOST_QUESTIONS; i++) {
                boolean stands = kind() == Tokens.LET ? let() : asks();
                if (!stands || !take(Tokens.SEMICOLON)) {
                    break;
                }
                if (kind() == Tokens.END) {
                    return NONE;
                }
            }
            return at < tokens.places.length ? tokens.places[at] : 0;
        }

        private int kind() {
            return at < tokens.kinds.length ? tokens.kinds[at] : Tokens.END;
        }

        private int value() {
            return at < tokens.values.length ? tokens.values[at] : 0;
        }

        private boolean take(int wanted) {
            if (at >= tokens.kinds.length || tokens.kinds[at] != wanted) {
                return false;
            }
            at++;
            return true;
        }

        /** Steps over a comparison's sign, a NAME, an and or an or, if the script may have it. */
        private boolean takeJoint() {
            if (joints >= MOST_JOINTS) {
                return false;
            }
            joints++;
            at++;
            return true;
        }

        /** Steps over a ( [ not or -, if it may stand within so many others. */
        private boolean takeDeeper(int depth) {
            if (depth >= MOST_DEPTH) {
                return false;
            }
            at++;
            return true;
        }

        private boolean isNumber(int least, int most) {
            return kind() == Tokens.NUMBER && value() >= least && value() <= most;
        }

        private boolean let() {
            if (script.lets() >= Script.MOST_LETS) {
                return false;
            }
            at++;
            int letter = value();
            if (kind() != Tokens.NAME || script.letOf(letter) != NONE) {
                return false;
            }
            at++;
            int start = conditions.size();
            if (!take(Tokens.EQUAL) || !condition(0)) {
                return false;
            }
            script.addLet(letter, start);
            return true;
        }

        private boolean asks() {
            if (script.asked() >= Script.MOST_QUESTIONS) {
                return false;
            }
            Question one = script.questionAt(script.asked());
            if (!head(one)) {
                return false;
            }
            one.start = conditions.size();
            if (take(Tokens.WHERE) && !condition(0)) {
                return false;
            }
            one.end = conditions.size();
            if (!take(Tokens.IN) || !isNumber(0, MOST_TOP)) {
                return false;
            }
            one.top = value();
            at++;
            script.addQuestion();
            return true;
        }

        /** A question up to its where. */
        private boolean head(Question one) {
            if (take(Tokens.COUNT)) {
                one.begin(Question.COUNT);
                return true;
            }
            if (take(Tokens.SUM)) {
                one.begin(Question.SUM);
                return column(one) && bounds(one);
            }
            if (take(Tokens.BINS)) {
                one.begin(Question.BINS);
                return column(one) && range(one);
            }
            return false;
        }

        private boolean column(Question one) {
            one.column = value();
            return take(Tokens.COLUMN);
        }

        /** Of a sum: to N, and by N if it is there. */
        private boolean bounds(Question one) {
            if (!take(Tokens.TO) || !isNumber(1, MOST_NUMBER)) {
                return false;
            }
            one.high = value();
            at++;
            if (!take(Tokens.BY)) {
                return true;
            }
            if (!isNumber(1, MOST_NUMBER)) {
                return false;
            }
            one.by = value();
            at++;
            return true;
        }

        /** Of bins: from INT to INT. */
        private boolean range(Question one) {
            if (!take(Tokens.FROM)) {
                return false;
            }
            int lowSign = take(Tokens.MINUS) ? -1 : 1;
            one.low = lowSign * value();
            if (!take(Tokens.NUMBER) || !take(Tokens.TO)) {
                return false;
            }
            int highSign = take(Tokens.MINUS) ? -1 : 1;
            one.high = highSign * value();
            long apart = (long) one.high - one.low;
            return apart >= 0 && apart < Script.MOST_BINS && take(Tokens.NUMBER);
        }

        /** A COND: an or waits until the ands behind it are done. */
        private boolean condition(int depth) {
            if (!truth(depth)) {
                return false;
            }
            boolean waiting = false;
            for (int i = 0; i < Text.MOST_SIGNS; i++) {
                int joint = kind();
                if (waiting && joint != Tokens.AND) {
                    conditions.add(Tokens.OR, 0);
                }
                if (joint != Tokens.AND && joint != Tokens.OR) {
                    return true;
                }
                if (!takeJoint() || !truth(depth)) {
                    return false;
                }
                if (joint == Tokens.AND) {
                    conditions.add(Tokens.AND, 0);
                } else {
                    waiting = true;
                }
            }
            return false;
        }

        /** A NOT. */
        private boolean truth(int depth) {
            int first = kind();
            if (first == Tokens.NOT) {
                if (!takeDeeper(depth) || !truth(depth + 1)) {
                    return false;
                }
                conditions.add(Tokens.NOT, 0);
                return true;
            }
            if (first == Tokens.OPEN_SQUARE) {
                return takeDeeper(depth) && condition(depth + 1) && take(Tokens.CLOSE_SQUARE);
            }
            if (first == Tokens.NAME) {
                int let = script.letOf(value());
                conditions.add(Tokens.NAME, let);
                return let != NONE && takeJoint();
            }
            if (!sum(depth)) {
                return false;
            }
            int sign = kind();
            if (sign < Tokens.AT_MOST || sign > Tokens.EQUAL || !takeJoint() || !sum(depth)) {
                return false;
            }
            conditions.add(sign, 0);
            return true;
        }

        /** A SUM: a + or - waits until the factors behind it are done. */
        private boolean sum(int depth) {
            if (!factor(depth)) {
                return false;
            }
            int waiting = NONE;
            for (int i = 0; i < Text.MOST_SIGNS; i++) {
                int sign = kind();
                if (waiting != NONE && sign != Tokens.TIMES) {
                    conditions.add(waiting, 0);
                }
                if (sign != Tokens.TIMES && sign != Tokens.PLUS && sign != Tokens.MINUS) {
                    return true;
                }
                at++;
                if (!factor(depth)) {
                    return false;
                }
                if (sign == Tokens.TIMES) {
                    conditions.add(Tokens.TIMES, 0);
                } else {
                    waiting = sign;
                }
            }
            return false;
        }

        private boolean factor(int depth) {
            int first = kind();
            switch (first) {
                case Tokens.NUMBER:
                case Tokens.COLUMN:
                    conditions.add(first, value());
                    at++;
                    return true;
                case Tokens.MINUS:
                    if (!takeDeeper(depth) || !factor(depth + 1)) {
                        return false;
                    }
                    conditions.add(Conditions.NEGATE, 0);
                    return true;
                case Tokens.OPEN:
                    return takeDeeper(depth) && sum(depth + 1) && take(Tokens.CLOSE);
                default:
                    return false;
            }
        }
    }
}
