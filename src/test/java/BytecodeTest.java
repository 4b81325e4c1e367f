import java.io.PrintWriter;
import java.io.StringWriter;
import java.nio.file.Files;
import java.nio.file.Path;
import java.util.ArrayList;
import java.util.Collections;
import java.util.HashMap;
import java.util.HashSet;
import java.util.List;
import java.util.Map;
import java.util.Set;
import java.util.regex.Matcher;
import java.util.regex.Pattern;
import java.util.spi.ToolProvider;

/** What can be told of ../shared/LANGUAGE.md by what the compiler made of the class. */
public final class BytecodeTest {
    /** Rule 4, as far as the class makes use of it. */
    private static final Set<String> LIBRARY = Set.of("java/lang/Object.\"<init>\"", "java/lang/Math.min",
        "java/lang/Math.max", "java/lang/Math.abs", "java/lang/System.arraycopy", "java/lang/String.length",
        "java/lang/String.charAt", "java/lang/StringBuilder.\"<init>\"", "java/lang/StringBuilder.append",
        "java/lang/StringBuilder.setLength", "java/lang/StringBuilder.length", "java/lang/StringBuilder.charAt");
    private static final Pattern METHOD = Pattern.compile("  (?:[\\w.$\\[\\]]+ )*([\\w.$]+)\\((.*)\\);");
    private static final Pattern FIELD = Pattern.compile("  ((?:[\\w.$\\[\\]]+ )+)(\\w+);");
    private static final Pattern CALL = Pattern.compile("invoke\\w+ .*// (?:Interface)?Method ([^:]+):");
    private static final int DEEPEST = 8;
    private static final Check check = new Check();

    private final Map<String, Set<String>> calls = new HashMap<>();
    private final List<String> open = new ArrayList<>();
    private final Map<String, Integer> depths = new HashMap<>();

    public static void main(String[] args) throws Exception {
        if (ToolProvider.findFirst("javap").isEmpty()) {
            System.out.println("there is no javap here, so nothing is looked at");
            return;
        }
        BytecodeTest test = new BytecodeTest();
        int classes = 0;
        Path directory = Path.of(PayrollRun.class.getProtectionDomain().getCodeSource().getLocation().toURI());
        try (var files = Files.list(directory)) {
            for (Path file : (Iterable<Path>) files::iterator) {
                String name = file.getFileName().toString();
                if (name.equals("PayrollRun.class") || name.startsWith("PayrollRun$")) {
                    classes++;
                    test.read(name.replace(".class", ""), listing(file));
                }
            }
        }
        check.same("rule 11: some twelve classes, but " + classes, classes <= 12 ? 1 : 0, 1);
        for (String method : test.calls.keySet()) {
            int depth = test.depthOf(method);
            check.same("rule 11: " + method + " is " + depth + " deep", depth <= DEEPEST ? 1 : 0, 1);
        }
        System.out.println(test.calls.size() + " methods, " + Collections.max(test.depths.values()) + " deep at most");
        check.end();
    }

    private static String listing(Path file) {
        StringWriter text = new StringWriter();
        PrintWriter out = new PrintWriter(text);
        ToolProvider.findFirst("javap").get().run(out, out, "-c", "-p", "-constants", file.toString());
        return text.toString();
    }

    private void read(String className, String listing) {
        String method = null;
        int fields = 0;
        for (String line : listing.split("\n")) {
            Matcher head = METHOD.matcher(line);
            Matcher field = FIELD.matcher(line);
            if (head.matches()) {
                boolean constructor = head.group(1).equals(className);
                method = className + "." + (constructor ? "\"<init>\"" : head.group(1)) + "(" + head.group(2) + ")";
                calls.put(method, new HashSet<>());
                int parameters = head.group(2).isEmpty() ? 0 : head.group(2).split(",").length;
                check.same("rule 11: parameters of " + method, parameters <= 7 ? 1 : 0, 1);
            } else if (line.equals("  static {};")) {
                method = className + ".static()";
                calls.put(method, new HashSet<>());
            } else if (field.matches()) {
                boolean isStatic = field.group(1).contains("static ");
                fields += isStatic ? 0 : 1;
                check.same("rule 5: " + className + "." + field.group(2),
                    isStatic && !field.group(1).contains("final ") ? 1 : 0, 0);
            } else if (method != null) {
                instruction(className, method, line);
            }
        }
        check.same("rule 11: fields of " + className + ": " + fields, fields <= 20 ? 1 : 0, 1);
    }

    private void instruction(String className, String method, String line) {
        for (String word : new String[] {" athrow", " invokedynamic", " monitorenter", " checkcast", " instanceof",
            " invokeinterface", "Exception table", " multianewarray", " frem", " drem"}) {
            check.same("rules 3, 4 and 6: " + method + " has" + word, line.contains(word) ? 1 : 0, 0);
        }
        if (line.contains(" putstatic")) {
            check.same("rule 5: " + method + " sets a constant", method.endsWith(".static()") ? 1 : 0, 1);
        }
        if (line.contains(" new ")) {
            boolean own = line.contains("class PayrollRun") || line.contains("class java/lang/StringBuilder");
            check.same("rule 4: " + method + ": " + line.trim(), own ? 1 : 0, 1);
        }
        Matcher call = CALL.matcher(line);
        if (!call.find()) {
            return;
        }
        String called = call.group(1);
        if (!called.contains(".")) {
            called = className + "." + called;
        }
        if (called.startsWith("PayrollRun")) {
            calls.get(method).add(called);
        } else {
            check.same("rule 4: " + method + " calls " + called, LIBRARY.contains(called) ? 1 : 0, 1);
        }
    }

    /** How many calls are open at once below a method, itself too; rule 8 is kept where none calls itself. */
    private int depthOf(String method) {
        if (depths.containsKey(method)) {
            return depths.get(method);
        }
        if (open.contains(method)) {
            check.fail("rule 8: a recursion " + open + " " + method);
            return 0;
        }
        open.add(method);
        int deepest = 0;
        for (String called : calls.get(method)) {
            for (String other : calls.keySet()) {
                if (other.startsWith(called + "(")) {
                    deepest = Math.max(deepest, depthOf(other));
                }
            }
        }
        open.remove(method);
        depths.put(method, deepest + 1);
        return deepest + 1;
    }
}
