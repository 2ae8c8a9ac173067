import java.math.BigInteger;
import java.util.ArrayList;
import java.util.HashMap;
import java.util.LinkedHashSet;
import java.util.List;
import java.util.Map;
import java.util.Set;
import java.util.regex.Matcher;
import java.util.regex.Pattern;

/** The document's answers, worked out in another way: with trees, lists, big numbers and the Java library. */
final class Model {
    private static final Pattern TOKEN = Pattern.compile("[a-z]+|[0-9]+|<=|>=|<>|[;=<>+*()\\[\\]-]");
    private static final Pattern SIGNS = Pattern.compile("[ -~]*");

    private interface Truth {
        boolean of(int[] row, Map<String, Boolean> lets);
    }

    private interface Sum {
        int of(int[] row);
    }

    private static final class Fault extends RuntimeException {
        private static final long serialVersionUID = 1L;
        final int place;

        Fault(int place) {
            this.place = place;
        }
    }

    private static final class Asked {
        String sort;
        int column;
        int from;
        int to;
        int by = 1;
        int top;
        Truth where = (row, lets) -> true;

        int units() {
            return sort.equals("sum") ? (int) Math.ceil(to / (double) by) : 1;
        }

        int numbers() {
            return sort.equals("bins") ? to - from + 1 : 1;
        }

        int cells() {
            return numbers() * (top + 1);
        }

        List<Integer> exact(List<int[]> rows) {
            List<Integer> all = new ArrayList<>();
            if (sort.equals("count")) {
                all.add(rows.size());
            } else if (sort.equals("sum")) {
                all.add(rows.stream().mapToInt(row -> row[column]).map(v -> v < 0 ? 0 : v > to ? to : v).sum() / by);
            } else {
                for (int bin = from; all.size() < numbers(); bin++) {
                    int it = bin;
                    all.add((int) rows.stream().filter(row -> row[column] == it).count());
                }
            }
            return all;
        }
    }

    private static final class Script {
        final Map<String, Truth> lets = new HashMap<>();
        final List<String> letOrder = new ArrayList<>();
        final List<Asked> asked = new ArrayList<>();
        String printed = "";
    }

    private final int p;
    private final int q;
    private final List<int[]> rows = new ArrayList<>();
    private final List<Integer> tape = new ArrayList<>();
    private final int[] budgets = new int[5];
    private final int[] spent = new int[5];
    private final StringBuilder text = new StringBuilder();
    private Script script;
    private List<Integer> told = new ArrayList<>();
    private String out = "";

    Model(int p, int q) {
        this.p = p < 1 ? 1 : p > 999 ? 999 : p;
        this.q = q <= this.p ? this.p + 1 : q > 1000 ? 1000 : q;
    }

    int row(int a, int b, int c, int d, int e, int f) {
        if (rows.size() == 60) {
            return -106;
        }
        rows.add(new int[] {a, b, c, d, e, f});
        return rows.size() - 1;
    }

    int drop(int row) {
        if (row < 0 || row >= rows.size()) {
            return -101;
        }
        rows.remove(row);
        return rows.size();
    }

    int draws(int first, int second) {
        List<Integer> cells = new ArrayList<>(List.of(first));
        if (second != -1) {
            cells.add(second);
        }
        for (int cell : cells) {
            if (cell < 0 || cell >= q * (p + q)) {
                return -102;
            }
        }
        if (tape.size() + cells.size() > 3000) {
            return -106;
        }
        tape.addAll(cells);
        return tape.size();
    }

    int count(int what) {
        if (what < 0 || what > 5) {
            return -102;
        }
        return new int[] {rows.size(), tape.size(), text.length(), script == null ? 0 : script.asked.size(),
            script == null ? 0 : script.lets.size(), told.size()}[what];
    }

    int budget(int whose, int units) {
        if (whose < 0 || whose > 4) {
            return -101;
        }
        if (units < 0 || units > 1000000) {
            return -102;
        }
        if (units < spent[whose]) {
            return -103;
        }
        int before = budgets[whose];
        budgets[whose] = units;
        return before;
    }

    int ledger(int whose, int what) {
        if (whose < 0 || whose > 4) {
            return -101;
        }
        return what == 0 ? spent[whose] : what == 1 ? budgets[whose] - spent[whose] : -102;
    }

    int type(long signs, int n) {
        if (n < 1 || n > 8) {
            return -102;
        }
        StringBuilder more = new StringBuilder();
        for (int i = 0; i < n; i++) {
            more.insert(0, (char) (signs & 255));
            signs >>= 8;
        }
        if (!SIGNS.matcher(more).matches()) {
            return -102;
        }
        if (text.length() + n > 2000) {
            return -106;
        }
        text.append(more);
        return text.length();
    }

    int read() {
        String all = text.toString();
        text.setLength(0);
        try {
            script = new Reader(all).script();
            return script.asked.size() + script.lets.size();
        } catch (Fault fault) {
            return -1000 - fault.place;
        }
    }

    int question(int i, int what) {
        if (script == null || i < 0 || i >= script.asked.size()) {
            return -101;
        }
        Asked one = script.asked.get(i);
        if (what < 0 || what > 4) {
            return -102;
        }
        return new int[] {List.of("count", "sum", "bins").indexOf(one.sort), one.units(), one.numbers(), one.top,
            one.cells()}[what];
    }

    int wants(int what) {
        if (what < 0 || what > 2) {
            return -102;
        }
        if (script == null) {
            return -103;
        }
        return script.asked.stream().mapToInt(one -> what == 0 ? one.units() : what == 1 ? one.numbers() : one.cells()).sum();
    }

    int run(int asker) {
        if (asker < 0 || asker > 3) {
            return -101;
        }
        if (script == null) {
            return -103;
        }
        if (wants(0) > Math.min(ledger(asker, 1), ledger(4, 1))) {
            return -104;
        }
        if (wants(2) > tape.size()) {
            return -105;
        }
        spent[asker] += wants(0);
        spent[4] += wants(0);
        told = new ArrayList<>();
        for (Asked one : script.asked) {
            List<int[]> held = new ArrayList<>(rows);
            held.removeIf(row -> !one.where.of(row, letsOf(row)));
            for (int exact : one.exact(held)) {
                int near = Math.min(exact, one.top);
                told.add(Math.min(one.top, Math.max(0, near + noise(0, one.top))));
                tape.subList(0, one.top + 1).clear();
            }
        }
        return told.size();
    }

    private Map<String, Boolean> letsOf(int[] row) {
        Map<String, Boolean> all = new HashMap<>();
        for (String name : script.letOrder) {
            all.put(name, script.lets.get(name).of(row, all));
        }
        return all;
    }

    int told(int i) {
        return i < 0 || i >= told.size() ? -1 : told.get(i);
    }

    int noise(int from, int top) {
        if (top < 0 || top > 30 || from < 0) {
            return -102;
        }
        if ((long) from + top + 1 > tape.size()) {
            return -105;
        }
        List<Integer> block = tape.subList(from, from + top + 1);
        int first = block.get(0);
        if (first < q * (q - p)) {
            return 0;
        }
        int size = 1;
        while (size <= top && block.get(size) < p * (p + q)) {
            size++;
        }
        return first < q * (q - p) + p * q ? size : -size;
    }

    int print() {
        if (script == null) {
            return -103;
        }
        out = script.printed;
        return out.length();
    }

    /** Adds up how likely each Z is, from what a cell's likelihoods are. */
    int share(int a, int o, int top) {
        if (top < 0 || top > 30 || a < 0 || a > top || o < 0 || o > top) {
            return -102;
        }
        BigInteger sum = BigInteger.ZERO;
        for (int z = -top - 1; z <= top + 1; z++) {
            if (Math.min(top, Math.max(0, a + z)) == o) {
                sum = sum.add(blocksOf(z, top));
            }
        }
        BigInteger cells = BigInteger.valueOf(q * (p + q));
        BigInteger whole = BigInteger.valueOf(p + q).multiply(BigInteger.valueOf(q).pow(top));
        BigInteger[] parts = sum.multiply(whole).divideAndRemainder(cells.pow(top + 1));
        if (parts[1].signum() != 0) {
            throw new IllegalStateException("a share is no whole number");
        }
        out = parts[0].toString();
        return out.length();
    }

    private BigInteger blocksOf(int z, int top) {
        BigInteger cells = BigInteger.valueOf(q * (p + q));
        BigInteger on = BigInteger.valueOf(p * (p + q));
        if (z == 0) {
            return BigInteger.valueOf(q * (q - p)).multiply(cells.pow(top));
        }
        int size = Math.abs(z);
        BigInteger first = BigInteger.valueOf(p * q).multiply(on.pow(size - 1));
        return size == top + 1 ? first : first.multiply(cells.subtract(on)).multiply(cells.pow(top - size));
    }

    int out(int i) {
        return i < 0 || i >= out.length() ? -1 : out.charAt(i);
    }

    boolean within(int a, int b, int top) {
        return top >= 0 && top <= 30 && Math.min(a, b) >= 0 && Math.max(a, b) <= top;
    }

    /** Reads a text by the grammar, one method for each of its lines. */
    private static final class Reader {
        private final String text;
        private final Matcher matcher;
        private int place;
        private String token;
        private int joints;
        private final Script made = new Script();
        private final Set<String> names = new LinkedHashSet<>();
        private final List<String> taken = new ArrayList<>();

        Reader(String text) {
            this.text = text;
            matcher = TOKEN.matcher(text);
            look(0);
        }

        private void look(int from) {
            place = from;
            while (place < text.length() && text.charAt(place) == ' ') {
                place++;
            }
            token = matcher.region(place, text.length()).lookingAt() ? matcher.group() : "";
        }

        private Fault fault() {
            return new Fault(place);
        }

        private boolean at(String... some) {
            return List.of(some).contains(token);
        }

        private String next() {
            String it = token;
            if (it.isEmpty()) {
                throw fault();
            }
            taken.add(it.replaceFirst("^0+(?=[0-9])", ""));
            look(place + it.length());
            return it;
        }

        private void must(String word) {
            if (!token.equals(word)) {
                throw fault();
            }
            next();
        }

        private int number(long least, long most, int sign) {
            if (!token.matches("[0-9]+")) {
                throw fault();
            }
            BigInteger n = new BigInteger(token);
            if (n.bitLength() > 31 || n.longValue() * sign < least || n.longValue() * sign > most) {
                throw fault();
            }
            next();
            return n.intValue() * sign;
        }

        Script script() {
            do {
                statement();
                must(";");
            } while (place < text.length());
            made.printed = String.join(" ", taken).replace(" by 1 ", " ");
            return made;
        }

        private void statement() {
            if (at("let")) {
                let();
            } else if (at("count", "sum", "bins")) {
                asks();
            } else {
                throw fault();
            }
        }

        private void let() {
            if (names.size() == 10) {
                throw fault();
            }
            next();
            if (!token.matches("[g-z]") || names.contains(token)) {
                throw fault();
            }
            String name = next();
            must("=");
            made.lets.put(name, cond(0));
            made.letOrder.add(name);
            names.add(name);
        }

        private void asks() {
            if (made.asked.size() == 12) {
                throw fault();
            }
            Asked one = new Asked();
            one.sort = next();
            if (!one.sort.equals("count")) {
                if (!token.matches("[a-f]")) {
                    throw fault();
                }
                one.column = next().charAt(0) - 'a';
            }
            if (one.sort.equals("sum")) {
                must("to");
                one.to = number(1, 1000, 1);
                if (at("by")) {
                    next();
                    one.by = number(1, 1000, 1);
                }
            }
            if (one.sort.equals("bins")) {
                must("from");
                one.from = number(Long.MIN_VALUE, Long.MAX_VALUE, sign());
                must("to");
                one.to = number(one.from, one.from + 19L, sign());
            }
            if (at("where")) {
                next();
                one.where = cond(0);
            }
            must("in");
            one.top = number(0, 30, 1);
            made.asked.add(one);
        }

        private int sign() {
            if (at("-")) {
                next();
                return -1;
            }
            return 1;
        }

        private void joint() {
            if (++joints > 150) {
                throw fault();
            }
        }

        private Truth cond(int depth) {
            Truth left = and(depth);
            while (at("or")) {
                joint();
                next();
                Truth one = left;
                Truth other = and(depth);
                left = (row, lets) -> one.of(row, lets) || other.of(row, lets);
            }
            return left;
        }

        private Truth and(int depth) {
            Truth left = not(depth);
            while (at("and")) {
                joint();
                next();
                Truth one = left;
                Truth other = not(depth);
                left = (row, lets) -> one.of(row, lets) && other.of(row, lets);
            }
            return left;
        }

        private void deeper(int depth) {
            if (depth == 20) {
                throw fault();
            }
            next();
        }

        private Truth not(int depth) {
            if (at("not")) {
                deeper(depth);
                Truth it = not(depth + 1);
                return (row, lets) -> !it.of(row, lets);
            }
            if (at("[")) {
                deeper(depth);
                Truth it = cond(depth + 1);
                must("]");
                return it;
            }
            if (token.matches("[g-z]")) {
                if (!names.contains(token)) {
                    throw fault();
                }
                joint();
                String name = next();
                return (row, lets) -> lets.get(name);
            }
            return comparison(depth);
        }

        private Truth comparison(int depth) {
            Sum left = sum(depth);
            if (!at("<", ">", "=", "<=", ">=", "<>")) {
                throw fault();
            }
            joint();
            String sign = next();
            Sum right = sum(depth);
            return (row, lets) -> {
                int order = Integer.compare(left.of(row), right.of(row));
                return sign.contains(order < 0 ? "<" : order > 0 ? ">" : "=");
            };
        }

        private Sum sum(int depth) {
            Sum left = term(depth);
            while (at("+", "-")) {
                boolean plus = next().equals("+");
                Sum one = left;
                Sum other = term(depth);
                left = row -> (int) ((long) one.of(row) + (plus ? 1L : -1L) * other.of(row));
            }
            return left;
        }

        private Sum term(int depth) {
            Sum left = factor(depth);
            while (at("*")) {
                next();
                Sum one = left;
                Sum other = factor(depth);
                left = row -> (int) ((long) one.of(row) * other.of(row));
            }
            return left;
        }

        private Sum factor(int depth) {
            if (at("-")) {
                deeper(depth);
                Sum it = factor(depth + 1);
                return row -> (int) -(long) it.of(row);
            }
            if (at("(")) {
                deeper(depth);
                Sum it = sum(depth + 1);
                must(")");
                return it;
            }
            if (token.matches("[a-f]")) {
                int column = next().charAt(0) - 'a';
                return row -> row[column];
            }
            int n = number(0, Integer.MAX_VALUE, 1);
            return row -> n;
        }
    }
}
