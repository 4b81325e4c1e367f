import java.nio.file.Files;
import java.nio.file.Path;
import java.util.ArrayList;
import java.util.List;
import java.util.Set;
import java.util.TreeSet;
import java.util.regex.Matcher;
import java.util.regex.Pattern;
import java.util.stream.Collectors;
import java.util.stream.Stream;

/** What README.md says is so: its example, its calls, its tests, and its lines of shell. */
public final class ReadmeTest {
    private static final Check check = new Check();
    private static final String TESTS_PART = "## How to run the tests";

    private final String text;

    private ReadmeTest(String text) {
        this.text = text;
    }

    public static void main(String[] args) throws Exception {
        ReadmeTest test = new ReadmeTest(Files.readString(Path.of("README.md")));
        test.theExamplePrintsWhatItSays();
        test.everyCallIsNamed();
        test.everyCodeIsNamed();
        test.everyTestIsNamed();
        test.allTestsRun();
        test.oneTestRuns();
        check.end();
    }

    private String part(boolean ofTests) {
        int border = text.indexOf(TESTS_PART);
        check.same("README.md has the part \"" + TESTS_PART + "\"", border > 0 ? 1 : 0, 1);
        return ofTests ? text.substring(border) : text.substring(0, border);
    }

    private static List<String> found(String regex, String in) {
        List<String> all = new ArrayList<>();
        Matcher matcher = Pattern.compile(regex).matcher(in);
        while (matcher.find()) {
            all.add(matcher.group(1));
        }
        return all;
    }

    private static List<String> blocks(String language, String in) {
        return found("(?s)```" + language + "\\n(.*?)\\n```", in);
    }

    private void theExamplePrintsWhatItSays() throws Exception {
        List<String> examples = blocks("java", part(false));
        List<String> ways = blocks("sh", part(false));
        check.same("examples", examples.size(), 1);
        check.same("ways to run it", ways.size(), 1);
        List<String> wanted = found("System\\.out\\.println\\(.*\\); +// prints ([^:\\n]*)", examples.get(0));
        check.same("lines that are printed", wanted.size(), examples.get(0).split("System.out.println").length - 1);
        try (Sandbox sandbox = new Sandbox()) {
            sandbox.put("Example.java", examples.get(0) + "\n");
            check.same("the example: exit code", sandbox.run(ways.get(0)), 0);
            check.same("the example prints", sandbox.output(), String.join("\n", wanted) + "\n");
        }
    }

    /** With the names of its arguments, as the document has them. */
    private void everyCallIsNamed() throws Exception {
        String doc = Files.readString(Path.of("../shared/DOC.md"));
        String face = blocks("java", doc).get(0);
        List<String> calls = found("public (?:int|long) (\\w+\\([^)]*\\));", face);
        check.same("methods in the document", calls.size(), 43);
        for (String call : calls) {
            check.same(call + " has a row", part(false).contains("\n| `" + call.replace("int ", "") + "` |") ? 1 : 0, 1);
        }
        check.same("the constructor is named", part(false).contains("`new PayrollRun()`") ? 1 : 0, 1);
    }

    private void everyCodeIsNamed() {
        List<String> rows = List.of("| " + PayrollRun.BAD + " | `BAD` |", "| " + PayrollRun.NONE + " | `NONE` |",
            "| " + PayrollRun.FULL + " | `FULL` |", "| `Long.MIN_VALUE` |", "| -100 - p |", "| -200 - p |");
        for (String row : rows) {
            check.same(row + " has a row", part(false).contains("\n" + row) ? 1 : 0, 1);
        }
    }

    private void everyTestIsNamed() throws Exception {
        Set<String> there;
        try (Stream<Path> files = Files.list(Path.of("src/test/java"))) {
            there = files.map(file -> file.getFileName().toString()).filter(name -> name.endsWith("Test.java"))
                .map(name -> name.replace(".java", "")).collect(Collectors.toCollection(TreeSet::new));
        }
        Set<String> named = new TreeSet<>();
        for (String row : found("(?m)^\\| (`.*Test`) \\|", part(true))) {
            named.addAll(found("`(\\w+Test)`", row));
        }
        check.same("the tests", named.toString(), there.toString());
    }

    private void allTestsRun() throws Exception {
        try (Sandbox sandbox = new Sandbox()) {
            sandbox.putTest("OneTest", "");
            sandbox.putTest("OtherTest", "");
            sandbox.putSharedTest("OneRuns", "");
            check.same("the first way: exit code", sandbox.run(blocks("sh", part(true)).get(0)), 0);
            for (String name : List.of("OneTest", "OtherTest", "OneRuns")) {
                check.same("the first way runs " + name, sandbox.ran(name) ? 1 : 0, 1);
            }
            sandbox.putTest("WrongTest", "System.exit(1);");
            check.same("a test fails", sandbox.run(blocks("sh", part(true)).get(0)) != 0 ? 1 : 0, 1);
        }
    }

    private void oneTestRuns() throws Exception {
        List<String> ways = blocks("sh", part(true));
        check.same("ways to run tests", ways.size(), 2);
        List<String> names = found(" (\\w+Test)\\b", ways.get(1));
        check.same("tests in the second way", names.size(), 1);
        String name = names.get(0);
        check.same("it is one of the tests", Files.exists(Path.of("src/test/java/" + name + ".java")) ? 1 : 0, 1);
        try (Sandbox sandbox = new Sandbox()) {
            sandbox.putTest(name, "");
            sandbox.putTest("OtherTest", "");
            check.same("the second way: exit code", sandbox.run(ways.get(1)), 0);
            check.same("the second way runs " + name, sandbox.ran(name) ? 1 : 0, 1);
            check.same("the second way runs no other", sandbox.ran("OtherTest") ? 1 : 0, 0);
        }
    }
}
