import java.util.ArrayList;
import java.util.List;
import java.util.Random;

/** Random scripts: tokens by the grammar, most of the time, with now and then a token too many, too few or wrong. */
final class Scripts {
    private static final String[] WORDS = {"let", "count", "sum", "bins", "from", "to", "by", "where", "in", "and", "or", "not",
        ";", "=", "<", ">", "<=", ">=", "<>", "+", "-", "*", "(", ")", "[", "]", "a", "f", "g", "h", "z", "0", "1", "31",
        "2147483647", "2147483648", "xy", "A", "#", "~", "007"};

    private final Random random;
    private final List<String> tokens = new ArrayList<>();
    private final List<String> names = new ArrayList<>();
    private final boolean deep;
    private int left;

    Scripts(Random random) {
        this.random = random;
        deep = random.nextInt(8) == 0;
        left = random.nextInt(deep ? 90 : 12);
    }

    String text() {
        int statements = 1 + (random.nextInt(12) == 0 ? random.nextInt(24) : random.nextInt(5));
        for (int i = 0; i < statements; i++) {
            statement();
            put(";");
        }
        int damage = random.nextInt(3) == 0 ? 1 + random.nextInt(2) : 0;
        for (int i = 0; i < damage; i++) {
            harm();
        }
        return joined();
    }

    private void put(String... some) {
        tokens.addAll(List.of(some));
    }

    private String number(int most) {
        String zeros = random.nextInt(6) == 0 ? "0".repeat(1 + random.nextInt(3)) : "";
        return zeros + random.nextInt(most + 1);
    }

    private String column() {
        return String.valueOf((char) ('a' + random.nextInt(6)));
    }

    private void statement() {
        int sort = random.nextInt(5);
        if (sort < 2) {
            let();
            return;
        }
        put(sort == 2 ? "count" : sort == 3 ? "sum" : "bins");
        if (sort > 2) {
            put(column());
        }
        if (sort == 3) {
            put("to", random.nextInt(20) == 0 ? number(1100) : "" + (1 + random.nextInt(40)));
            if (random.nextBoolean()) {
                put("by", random.nextInt(3) == 0 ? "1" : random.nextInt(20) == 0 ? number(1100) : "" + (1 + random.nextInt(9)));
            }
        }
        if (sort == 4) {
            range();
        }
        if (random.nextInt(3) > 0) {
            put("where");
            condition(0);
        }
        put("in", random.nextInt(4) == 0 ? number(31) : number(5));
    }

    private void let() {
        String name = String.valueOf((char) ('g' + random.nextInt(20)));
        if (names.contains(name) && random.nextInt(10) > 0) {
            name = String.valueOf((char) ('g' + random.nextInt(20)));
        }
        put("let", name, "=");
        condition(0);
        names.add(name);
    }

    private void range() {
        int from = random.nextInt(30) - 20;
        int to = from + random.nextInt(random.nextInt(8) == 0 ? 22 : 6) - (random.nextInt(20) == 0 ? 2 : 0);
        put("from");
        putInt(from);
        put("to");
        putInt(to);
    }

    private void putInt(int number) {
        if (number < 0) {
            put("-");
        }
        put("" + Math.abs(number));
    }

    private void condition(int depth) {
        truth(depth);
        while (left > 0 && random.nextInt(3) > 0) {
            left--;
            put(random.nextBoolean() ? "and" : "or");
            truth(depth);
        }
    }

    private void truth(int depth) {
        boolean nest = deep ? random.nextInt(30) > 0 && depth < 22 : random.nextInt(4) == 0 && depth < 4;
        if (nest && random.nextBoolean()) {
            if (random.nextBoolean()) {
                put("not");
                truth(depth + 1);
            } else {
                put("[");
                condition(depth + 1);
                put("]");
            }
        } else if (!names.isEmpty() && random.nextInt(3) == 0) {
            put(random.nextInt(30) == 0 ? "q" : names.get(random.nextInt(names.size())));
        } else {
            sum(depth);
            put(WORDS[13 + random.nextInt(6)]);
            sum(depth);
        }
    }

    private void sum(int depth) {
        factor(depth);
        for (int i = random.nextInt(4); i > 1; i--) {
            put(WORDS[19 + random.nextInt(3)]);
            factor(depth);
        }
    }

    private void factor(int depth) {
        boolean nest = deep ? random.nextInt(10) > 0 && depth < 21 : random.nextInt(5) == 0 && depth < 5;
        if (nest && random.nextBoolean()) {
            put("-");
            factor(depth + 1);
        } else if (nest && tokens.size() < 500) {
            put("(");
            sum(depth + 1);
            put(")");
        } else if (random.nextBoolean()) {
            put(column());
        } else {
            put(random.nextInt(12) == 0 ? number(Integer.MAX_VALUE - 1) : number(9));
        }
    }

    private void harm() {
        int at = random.nextInt(tokens.size());
        String word = WORDS[random.nextInt(WORDS.length)];
        switch (random.nextInt(4)) {
            case 0:
                tokens.remove(at);
                break;
            case 1:
                tokens.add(at, word);
                break;
            case 2:
                tokens.set(at, word);
                break;
            default:
                tokens.subList(at, tokens.size()).clear();
                break;
        }
        if (tokens.isEmpty()) {
            tokens.add(" ");
        }
    }

    /** Spaces where two words or numbers would grow together, and elsewhere at random. */
    private String joined() {
        StringBuilder all = new StringBuilder();
        for (String token : tokens) {
            boolean needed = all.length() > 0 && Character.isLetterOrDigit(all.charAt(all.length() - 1))
                && Character.isLetterOrDigit(token.charAt(0));
            boolean sign = all.length() > 0 && "<>=".indexOf(all.charAt(all.length() - 1)) >= 0 && random.nextInt(4) > 0;
            int spaces = needed && random.nextInt(60) > 0 || sign ? 1 : random.nextInt(4) == 0 ? random.nextInt(3) : 0;
            all.append(" ".repeat(spaces)).append(token);
        }
        return all.append(" ".repeat(random.nextInt(8) == 0 ? 2 : 0)).toString();
    }
}
