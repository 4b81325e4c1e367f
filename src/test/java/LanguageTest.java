import java.nio.file.Files;
import java.nio.file.Path;
import java.util.List;
import java.util.regex.Matcher;
import java.util.regex.Pattern;

/** What can be told of ../shared/LANGUAGE.md by looking at the lines of the class. */
public final class LanguageTest {
    private static final Check check = new Check();
    private static final String[] FORBIDDEN = {"throw", "try", "catch", "finally", "synchronized", "assert", "import",
        "package", "System\\.out", "Exact", "->", "::", "instanceof \\w+ \\w+ &&", "yield", "var", "hashCode", "native",
        "Random", "currentTime", "nanoTime", "Thread", "\\.equals\\(", "protected", "volatile", "transient",
        "interface \\w+ \\{\\}", "\\[\\]\\[\\]\\[\\]", "Integer\\.", "Long\\.", "String\\.valueOf", "toString",
        "static \\{"};

    public static void main(String[] args) throws Exception {
        Path path = Path.of("src/main/java/PayrollRun.java");
        List<String> lines = Files.readAllLines(path);
        StringBuilder code = new StringBuilder();
        int method = 0;
        int number = 0;
        for (String line : lines) {
            number++;
            check.same("signs in line " + number, line.chars().allMatch(c -> c >= 32 && c < 127) ? 1 : 0, 1);
            check.same("length of line " + number, line.length() <= 120 ? 1 : 0, 1);
            String bare = line.replaceAll("\"[^\"]*\"", "\"\"").replaceAll("//.*|/\\*\\*.*\\*/|^ *\\*.*", "");
            code.append(bare).append('\n');
            if (bare.matches(" +[\\w\\[\\]<> ]+\\([\\w\\[\\], ]*\\) \\{")) {
                method = number;
            }
            if (bare.matches("    (    )?\\}") && method > 0) {
                check.same("lines of the method at " + method, number - method <= 60 ? 1 : 0, 1);
                method = 0;
            }
        }
        String text = code.toString().replaceAll("(?s)/\\*.*?\\*/", "");
        for (String word : FORBIDDEN) {
            String border = Character.isLetter(word.charAt(0)) ? "\\b" : "";
            String end = Character.isLetter(word.charAt(word.length() - 1)) && !word.equals("Exact") ? "\\b" : "";
            Matcher matcher = Pattern.compile((word.equals("Exact") ? "" : border) + word + end).matcher(text);
            check.same("rule 6: " + word, matcher.find() ? 1 : 0, 0);
        }
        check.same("rule 10: texts are not joined by +", text.matches("(?s).*(\"\" \\+|\\+ \"\").*") ? 1 : 0, 0);
        parameters(text);
        check.end();
    }

    private static void parameters(String text) {
        Matcher matcher = Pattern.compile("\\n    +[\\w\\[\\]<> ]+ \\w+\\(([\\w\\[\\], ]*)\\) \\{").matcher(text);
        int methods = 0;
        while (matcher.find()) {
            methods++;
            check.same("rule 11: " + matcher.group(1), matcher.group(1).split(",").length <= 7 ? 1 : 0, 1);
        }
        check.same("methods were found", methods > 43 ? 1 : 0, 1);
    }
}
