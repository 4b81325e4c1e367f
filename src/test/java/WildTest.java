import java.lang.reflect.InvocationTargetException;
import java.lang.reflect.Method;
import java.lang.reflect.Modifier;

/** No call ever throws, for any arguments in any state, and a call that returns an error code changes nothing. */
public final class WildTest {
    private static final int[] VALUES = {Integer.MIN_VALUE, Integer.MIN_VALUE + 1, -1000000, -3, -2, -1, 0, 1, 2, 3, 4,
        5, 6, 7, 8, 9, 11, 12, 13, 30, 31, 32, 48, 53, 54, 59, 99, 126, 127, 499, 500, 999, 1000, 1001, 9999, 10000,
        99999, 100000, 65536, 65600, Integer.MAX_VALUE - 1, Integer.MAX_VALUE};
    private static final Check check = new Check();
    private static long seed = 4711;

    public static void main(String[] args) throws Exception {
        for (int number = 0; number < 300 && check.wrong() == 0; number++) {
            wildRun(number);
        }
        for (int number = 0; number < 40 && check.wrong() == 0; number++) {
            errorsChangeNothing(number);
        }
        check.end();
    }

    private static int next(int below) {
        seed = seed * 6364136223846793005L + 1442695040888963407L;
        return (int) ((seed >>> 33) % below);
    }

    private static int value() {
        return next(3) == 0 ? VALUES[next(VALUES.length)] : next(4);
    }

    private static long call(PayrollRun run, Method method) throws Exception {
        Object[] arguments = new Object[method.getParameterCount()];
        StringBuilder text = new StringBuilder(method.getName());
        for (int i = 0; i < arguments.length; i++) {
            arguments[i] = value();
            text.append(' ').append(arguments[i]);
        }
        try {
            return ((Number) method.invoke(run, arguments)).longValue();
        } catch (InvocationTargetException e) {
            check.fail(text + " threw " + e.getCause());
            return 0;
        }
    }

    private static Method[] methods() {
        Method[] all = PayrollRun.class.getDeclaredMethods();
        java.util.Arrays.sort(all, (a, b) -> a.getName().compareTo(b.getName()));
        int count = 0;
        for (Method m : all) {
            if (Modifier.isPublic(m.getModifiers())) {
                all[count++] = m;
            }
        }
        return java.util.Arrays.copyOf(all, count);
    }

    private static void wildRun(int number) throws Exception {
        PayrollRun run = new PayrollRun();
        Method[] methods = methods();
        for (int i = 0; i < 512; i++) {
            int luck = next(10);
            if (luck == 0) {
                run.closeMonth();
            } else if (luck == 1 && number % 2 == 0) {
                run.newYear();
            } else if (luck == 2 && number % 3 == 0) {
                Check.feed(run, "close;bonus 0 0 5".substring(0, 1 + next(17)));
            } else {
                call(run, methods[next(methods.length)]);
            }
        }
        check.same("a run to its end", run.closed() >= 0 ? 1 : 0, 1);
    }

    private static void errorsChangeNothing(int number) throws Exception {
        PayrollRun run = new PayrollRun();
        Method[] methods = methods();
        for (int i = 0; i < 200; i++) {
            String before = Check.state(run);
            Method method = methods[next(methods.length)];
            long answer = call(run, method);
            boolean error = answer == -1 || answer == -2 || answer == -3;
            if (error && !method.getName().equals("execute")) {
                check.same("nothing is changed by " + method.getName(), Check.state(run), before);
            }
            if (next(5) == 0) {
                run.closeMonth();
            }
        }
    }
}
