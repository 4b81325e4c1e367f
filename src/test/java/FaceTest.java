import java.lang.reflect.Constructor;
import java.lang.reflect.Field;
import java.lang.reflect.Method;
import java.lang.reflect.Modifier;
import java.nio.file.Files;
import java.nio.file.Path;
import java.util.ArrayList;
import java.util.Collections;
import java.util.List;
import java.util.regex.Matcher;
import java.util.regex.Pattern;

/** The public face is that of the document, and there is no other member that can be seen. */
public final class FaceTest {
    private static final Check check = new Check();

    public static void main(String[] args) throws Exception {
        List<String> want = new ArrayList<>();
        String doc = new String(Files.readAllBytes(Path.of("../shared/DOC.md")), "UTF-8");
        int from = doc.indexOf("```java");
        String face = doc.substring(from, doc.indexOf("```", from + 7));
        Matcher method = Pattern.compile("public (int|long) (\\w+)\\(([^)]*)\\);").matcher(face);
        while (method.find()) {
            want.add(method.group(1) + " " + method.group(2) + " " + ints(method.group(3)));
        }
        check.same("methods in the document", want.size(), 43);
        List<String> got = new ArrayList<>();
        for (Method m : PayrollRun.class.getDeclaredMethods()) {
            if (m.isSynthetic()) {
                continue;
            }
            if (Modifier.isPublic(m.getModifiers())) {
                got.add(m.getReturnType().getName() + " " + m.getName() + " " + m.getParameterCount());
                for (Class<?> type : m.getParameterTypes()) {
                    check.same("parameter of " + m.getName(), type.getName(), "int");
                }
            } else {
                check.same("private: " + m.getName(), Modifier.isPrivate(m.getModifiers()) ? 1 : 0, 1);
            }
        }
        Collections.sort(want);
        Collections.sort(got);
        check.same("methods", got.toString(), want.toString());
        fields();
        classes(want);
        check.end();
    }

    private static int ints(String parameters) {
        return parameters.isEmpty() ? 0 : parameters.split(",").length;
    }

    private static void fields() throws Exception {
        List<String> seen = new ArrayList<>();
        for (Field field : PayrollRun.class.getDeclaredFields()) {
            if (!Modifier.isPrivate(field.getModifiers()) && !field.isSynthetic()) {
                seen.add(Modifier.toString(field.getModifiers()) + " " + field.getName() + " " + field.getInt(null));
            }
        }
        Collections.sort(seen);
        check.same("constants", seen.toString(),
            "[public static final BAD -1, public static final FULL -3, public static final NONE -2]");
        check.same("the class", Modifier.toString(PayrollRun.class.getModifiers()), "public final");
        Constructor<?>[] constructors = PayrollRun.class.getDeclaredConstructors();
        check.same("constructors", constructors.length, 1);
        check.same("the constructor", constructors[0].toString(), "public PayrollRun()");
    }

    /** Classes inside are static and not public, and no method of theirs is named as one of the face. */
    private static void classes(List<String> face) {
        List<String> names = new ArrayList<>();
        for (String method : face) {
            names.add(method.split(" ")[1]);
        }
        Class<?>[] inside = PayrollRun.class.getDeclaredClasses();
        check.same("some twelve classes", inside.length < 13 ? 1 : 0, 1);
        for (Class<?> c : inside) {
            check.same("static: " + c, Modifier.isStatic(c.getModifiers()) ? 1 : 0, 1);
            check.same("not public: " + c, Modifier.isPublic(c.getModifiers()) ? 1 : 0, 0);
            for (Method m : c.getDeclaredMethods()) {
                check.same("own name: " + m, names.contains(m.getName()) ? 1 : 0, 0);
            }
        }
    }
}
