import java.io.IOException;
import java.nio.file.Files;
import java.nio.file.Path;
import java.util.Comparator;
import java.util.List;
import java.util.stream.Collectors;
import java.util.stream.Stream;

/**
 * A small project in a new directory, with the script, the README and the class of this one, but with tests of its
 * own: what runs all tests of this project can't itself be run by one of them.
 */
final class Sandbox implements AutoCloseable {
    private final Path root;
    private final Path project;
    private final Path shared;
    private String output = "";

    Sandbox() throws IOException {
        root = Files.createTempDirectory("payroll");
        project = root.resolve("main");
        shared = root.resolve("shared/tests");
        Files.createDirectories(project.resolve("src/test/java"));
        Files.createDirectories(shared);
        for (String file : List.of(".ci/run", "README.md", "src/main/java/PayrollRun.java")) {
            Files.createDirectories(project.resolve(file).getParent());
            Files.copy(Path.of(file), project.resolve(file));
        }
        project.resolve(".ci/run").toFile().setExecutable(true);
    }

    void put(String file, String text) throws IOException {
        Files.writeString(project.resolve(file), text);
    }

    /** A test of the project that makes an object, tells its own name, and then goes on as the statement says. */
    void putTest(String name, String statement) throws IOException {
        put("src/test/java/" + name + ".java", test(name, statement));
    }

    void putSharedTest(String name, String statement) throws IOException {
        Files.writeString(shared.resolve(name + ".java"), test(name, statement));
    }

    private static String test(String name, String statement) {
        return "public final class " + name + " {\n    public static void main(String[] args) {\n"
            + "        System.out.println(\"ran " + name + ", \" + new PayrollRun().closed());\n"
            + "        " + statement + "\n    }\n}\n";
    }

    /**
     * Answers the exit code of a line of shell in the project's directory; output() then tells what was printed.
     * Errors that a test of the script makes on purpose would only look like real ones, so they are not shown.
     */
    int run(String line) throws IOException, InterruptedException {
        Process process = new ProcessBuilder("sh", "-c", line).directory(project.toFile())
            .redirectError(ProcessBuilder.Redirect.DISCARD).start();
        process.getOutputStream().close();
        output = new String(process.getInputStream().readAllBytes());
        return process.waitFor();
    }

    String output() {
        return output;
    }

    boolean ran(String test) {
        return output.contains("ran " + test + ", 0\n");
    }

    @Override
    public void close() throws IOException {
        try (Stream<Path> files = Files.walk(root)) {
            for (Path file : files.sorted(Comparator.reverseOrder()).collect(Collectors.toList())) {
                Files.delete(file);
            }
        }
    }
}
