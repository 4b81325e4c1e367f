/** .ci/run runs every test of the project and every shared one, and fails if one of them does. */
public final class CiTest {
    private static final String FINE = "";
    private static final String EXITS = "System.exit(1);";
    private static final String THROWS = "throw new IllegalStateException();";
    private static final String NO_JAVA = "this is no statement";
    private static final Check check = new Check();

    public static void main(String[] args) throws Exception {
        allAreFine();
        oneFails("a test of the project ends with 1", EXITS, FINE);
        oneFails("a test of the project throws", THROWS, FINE);
        oneFails("a shared test ends with 1", FINE, EXITS);
        oneDoesNotCompile("a test of the project", NO_JAVA, FINE);
        oneDoesNotCompile("a shared test", FINE, NO_JAVA);
        theClassDoesNotCompile();
        check.end();
    }

    /** The tests in question come before others that are fine. */
    private static void fill(Sandbox sandbox, String own, String shared) throws Exception {
        sandbox.putTest("FirstTest", own);
        sandbox.putTest("OtherTest", FINE);
        sandbox.putSharedTest("FirstRuns", shared);
        sandbox.putSharedTest("OtherRuns", FINE);
    }

    private static void ran(Sandbox sandbox, String name, String... tests) {
        for (String test : tests) {
            check.same(name + ": " + test + " is run", sandbox.ran(test) ? 1 : 0, 1);
        }
    }

    private static void allAreFine() throws Exception {
        try (Sandbox sandbox = new Sandbox()) {
            fill(sandbox, FINE, FINE);
            check.same("all are fine: exit code", sandbox.run(".ci/run"), 0);
            ran(sandbox, "all are fine", "FirstTest", "OtherTest", "FirstRuns", "OtherRuns");
            check.same("from another directory: exit code", sandbox.run("cd / && \"$OLDPWD/.ci/run\""), 0);
            ran(sandbox, "from another directory", "FirstTest", "OtherRuns");
            check.same("nothing is left behind", sandbox.run("test -z \"$(find . -name '*.class')\""), 0);
        }
    }

    private static void oneFails(String name, String own, String shared) throws Exception {
        try (Sandbox sandbox = new Sandbox()) {
            fill(sandbox, own, shared);
            check.same(name + ": it fails", sandbox.run(".ci/run") != 0 ? 1 : 0, 1);
            ran(sandbox, name, "FirstTest", "OtherTest", "FirstRuns", "OtherRuns");
        }
    }

    private static void oneDoesNotCompile(String name, String own, String shared) throws Exception {
        try (Sandbox sandbox = new Sandbox()) {
            fill(sandbox, own, shared);
            check.same(name + " does not compile: it fails", sandbox.run(".ci/run") != 0 ? 1 : 0, 1);
        }
    }

    private static void theClassDoesNotCompile() throws Exception {
        try (Sandbox sandbox = new Sandbox()) {
            fill(sandbox, FINE, FINE);
            sandbox.put("src/main/java/PayrollRun.java", "public final class PayrollRun {");
            check.same("the class does not compile: it fails", sandbox.run(".ci/run") != 0 ? 1 : 0, 1);
        }
    }
}
