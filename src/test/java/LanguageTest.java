import java.io.IOException;
import java.nio.file.Files;
import java.nio.file.Path;
import java.util.regex.Matcher;
import java.util.regex.Pattern;

/** Rules of LANGUAGE.md that can be seen in the text of the class. */
public final class LanguageTest {
    private static final String[] FORBIDDEN = {
        "\\b(throws?|try|catch|synchronized|assert|protected|package|abstract)\\b",
        "\\bSystem\\.(?!arraycopy\\b)", "Exact\\b", "\\b(hashCode|toString|equals)\\b", "\\b(Thread|Random|Object)\\b",
        "->", "::", "\\b(Integer|Long|Math)\\.[A-Z]", "\\bMath\\.(?!(min|max|abs)\\b)", "\\b(double|float)\\b"};
    /** A method of a class inside is indented by 8, one of the class itself by 4. */
    private static final Pattern METHOD =
        Pattern.compile("(?m)^( {8}| {4})(?! )([\\w\\[\\] ]+)\\(([^)]*)\\) \\{\n(?s:(.*?))^\\1\\}$");

    public static void main(String[] args) throws IOException {
        Check check = new Check();
        String source = Files.readString(Path.of("src/main/java/PrivateQueries.java"));
        String code = source.replaceAll("(?s)/\\*.*?\\*/", "").replaceAll("\"[^\"\n]*\"", "\"\"");
        for (String rule : FORBIDDEN) {
            Matcher found = Pattern.compile(rule).matcher(code);
            check.due(rule, "", found.find() ? found.group() : "");
        }
        Matcher imported = Pattern.compile("(?m)^import (.*);$").matcher(code);
        while (imported.find()) {
            check.due("import", "java.util.Arrays", imported.group(1));
        }
        check.due("classes, at most 12", true, code.split("\\bclass ").length - 1 <= 12);
        checkMethods(check, code);
        check.end();
    }

    private static void checkMethods(Check check, String code) {
        Matcher found = METHOD.matcher(code);
        int methods = 0;
        while (found.find()) {
            methods++;
            String name = found.group(2).trim();
            check.due(name + " has few parameters", true, found.group(3).split(",").length <= 7);
            check.due(name + " is short", true, found.group(4).split("\n").length <= 60);
            boolean constructor = name.matches("(public )?[A-Z]\\w*");
            check.due(name + " makes nothing but a parser", "", constructor ? "" : made(found.group(4)));
        }
        check.due("methods were found", true, methods > 60);
    }

    /** What a method makes with new, beside the one small object that a reading wants. */
    private static String made(String body) {
        Matcher found = Pattern.compile("\\bnew (?!Parser\\b)\\w+").matcher(body);
        return found.find() ? found.group() : "";
    }
}
