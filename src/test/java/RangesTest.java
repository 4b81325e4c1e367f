import java.lang.reflect.Method;
import java.util.Arrays;

/**
 * Every argument of every call at its edges: the smallest int, the first below its range, the least, the greatest, the
 * first above its range, and the largest int, all of them together with all of the other arguments, so that two
 * error codes are possible at once too.
 */
public final class RangesTest {
    private static final int BAD = PayrollRun.BAD;
    private static final int NONE = PayrollRun.NONE;
    private static final int FULL = PayrollRun.FULL;
    private static final long NO_AMOUNT = Long.MIN_VALUE;
    /** Any answer that is no error code. */
    private static final long ANSWERED = 1;
    private static final int[] EMPLOYEE = {0, 2};
    private static final int[] MONTH = {0, 11};
    private static final Check check = new Check();

    public static void main(String[] args) throws Exception {
        data();
        rules();
        garnishments();
        amounts();
        slips();
        forecasts();
        sums();
        theBuffer();
        check.end();
    }

    private static void data() throws Exception {
        for (States state : States.values()) {
            ranged("2", "salary", state, BAD, EMPLOYEE, MONTH, to(0, 9999));
            ranged("3", "days", state, BAD, EMPLOYEE, MONTH, to(0, 30));
            ranged("4", "bonus", state, BAD, EMPLOYEE, MONTH, to(0, 9999));
            ranged("5", "setFloor", state, BAD, EMPLOYEE, to(0, 9999));
            ranged("17", "data", state, BAD, EMPLOYEE, MONTH, to(0, 2));
        }
    }

    private static void rules() throws Exception {
        for (States state : States.values()) {
            ranged("6", "setRate", state, BAD, to(0, 1), to(0, 499));
            ranged("7", "setCap", state, BAD, to(0, 1), to(0, 99999));
        }
        ranged("8", "bracket", States.EMPTY, BAD, to(0, 99999), to(0, 999));
        ranged("8", "bracket", States.MIDDLE, BAD, to(4001, 99999), to(0, 999));
        full("8", "bracket", to(20001, 99999), to(0, 999));
        setting(States.EMPTY, 0);
        setting(States.MIDDLE, 2);
        setting(States.FULL, 5);
    }

    private static void setting(States state, int brackets) throws Exception {
        int[][] indexes = {EMPLOYEE, to(0, 1), to(0, 1), to(0, brackets - 1), to(0, brackets - 1), to(0, 0)};
        int[] whats = {Integer.MIN_VALUE, -1, 0, 1, 2, 3, 4, 5, 6, Integer.MAX_VALUE};
        for (int what : whats) {
            boolean known = what >= 0 && what < indexes.length;
            for (int index : edges(known ? indexes[what] : to(0, 2))) {
                boolean good = known && index >= indexes[what][0] && index <= indexes[what][1];
                long got = state.make().setting(what, index);
                told("18: setting(" + what + ", " + index + ") " + state, got, good, BAD);
            }
        }
    }

    private static void garnishments() throws Exception {
        ranged("10", "fixed", States.EMPTY, BAD, EMPLOYEE, to(1, 9999), to(1, 99999));
        ranged("11", "share", States.EMPTY, BAD, EMPLOYEE, to(1, 1000), to(1, 99999));
        full("10", "fixed", EMPLOYEE, to(1, 9999), to(1, 99999));
        full("11", "share", EMPLOYEE, to(1, 1000), to(1, 99999));
        ranged("12", "dropGarnishment", States.FULL, BAD, EMPLOYEE, to(0, 2));
        ranged("13", "moveGarnishment", States.FULL, BAD, EMPLOYEE, to(0, 2), to(0, 2));
        ranged("20", "rest", States.FULL, BAD, EMPLOYEE, to(0, 2));
        // Without any garnishment, no position is in range.
        ranged("12", "dropGarnishment", States.EMPTY, BAD, EMPLOYEE, to(0, -1));
        ranged("13", "moveGarnishment", States.EMPTY, BAD, EMPLOYEE, to(0, -1), to(0, -1));
        ranged("20", "rest", States.EMPTY, BAD, EMPLOYEE, to(0, -1));
        garnishment(States.EMPTY, 0);
        garnishment(States.FULL, 3);
    }

    private static void garnishment(States state, int count) {
        for (int employee : edges(EMPLOYEE)) {
            for (int position : edges(to(-1, count - 1))) {
                for (int what : edges(to(0, 2))) {
                    boolean place = position == -1 && what == 0 || position >= 0 && position < count;
                    boolean good = employee >= 0 && employee <= 2 && place && what >= 0 && what <= 2;
                    long got = state.make().garnishment(employee, position, what);
                    told("19: garnishment(" + employee + ", " + position + ", " + what + ") " + state, got, good, BAD);
                }
            }
        }
    }

    private static void amounts() throws Exception {
        for (States state : States.values()) {
            ranged("21", "due", state, BAD, EMPLOYEE, MONTH, to(0, 4));
            ranged("23", "pending", state, NO_AMOUNT, EMPLOYEE);
            ranged("24", "owed", state, BAD, EMPLOYEE);
            ranged("35", "oneRun", state, BAD, EMPLOYEE, to(0, 4));
        }
        ranged("22", "settled", States.FULL, BAD, EMPLOYEE, MONTH, to(0, 4));
        notClosed("22", "settled", States.EMPTY, 1, EMPLOYEE, MONTH, to(0, 4));
        notClosed("22", "settled", States.MIDDLE, 1, EMPLOYEE, to(5, 11), to(0, 4));
    }

    private static void slips() throws Exception {
        ranged("25", "lineCount", States.FULL, BAD, EMPLOYEE, MONTH);
        ranged("29", "payout", States.FULL, BAD, EMPLOYEE, MONTH);
        ranged("39", "corrections", States.FULL, BAD, EMPLOYEE, MONTH);
        notClosed("25", "lineCount", States.EMPTY, 1, EMPLOYEE, MONTH);
        notClosed("25", "lineCount", States.MIDDLE, 1, EMPLOYEE, to(5, 11));
        notClosed("29", "payout", States.EMPTY, 1, EMPLOYEE, MONTH);
        notClosed("29", "payout", States.MIDDLE, 1, EMPLOYEE, to(5, 11));
        notClosed("39", "corrections", States.EMPTY, 1, EMPLOYEE, MONTH);
        notClosed("39", "corrections", States.MIDDLE, 1, EMPLOYEE, to(5, 11));
        for (States state : States.values()) {
            lines(state);
        }
    }

    /** Promises 26 to 28, where a month that is not closed, or a line that isn't there, is another error. */
    private static void lines(States state) {
        for (int employee : edges(EMPLOYEE)) {
            for (int month : edges(MONTH)) {
                boolean known = employee >= 0 && employee <= 2 && month >= 0 && month <= 11;
                int count = Math.max(0, state.make().lineCount(employee, month));
                int length = Math.max(0, state.make().letter(employee, month, -1));
                for (int i : edges(to(0, count - 1))) {
                    boolean there = known && i >= 0 && i < count;
                    String call = "(" + employee + ", " + month + ", " + i;
                    told("27: amount" + call + ") " + state, state.make().amount(employee, month, i), there, NO_AMOUNT);
                    for (int what : edges(to(0, 2))) {
                        boolean bad = !known || what < 0 || what > 2;
                        told("26: line" + call + ", " + what + ") " + state,
                            state.make().line(employee, month, i, what), there && !bad, bad ? BAD : NONE);
                    }
                }
                for (int i : edges(to(-1, length - 1))) {
                    boolean there = known && length > 0 && i >= -1 && i < length;
                    told("28: letter(" + employee + ", " + month + ", " + i + ") " + state,
                        state.make().letter(employee, month, i), there, known ? NONE : BAD);
                }
            }
        }
    }

    private static void forecasts() throws Exception {
        for (States state : new States[] {States.EMPTY, States.MIDDLE}) {
            ranged("30", "preview", state, BAD, EMPLOYEE);
            ranged("31", "marginal", state, BAD, EMPLOYEE);
        }
        allClosed("30", "preview", EMPLOYEE);
        allClosed("31", "marginal", EMPLOYEE);
        allClosed("32", "leastSalary", EMPLOYEE, to(0, 99999));
        leastSalary();
        for (States state : States.values()) {
            ranged("33", "projected", state, BAD, EMPLOYEE);
        }
    }

    /** The greatest net pay of a month is far below the greatest amount that can be asked for. */
    private static void leastSalary() {
        int[] nets = {Integer.MIN_VALUE, -1, 0, 9999, 10000, 99999, 100000, Integer.MAX_VALUE};
        for (int employee : edges(EMPLOYEE)) {
            for (int net : nets) {
                boolean good = employee >= 0 && employee <= 2 && net >= 0 && net <= 99999;
                int want = good ? net <= 9999 ? net : NONE : BAD;
                check.same("32: leastSalary(" + employee + ", " + net + ")",
                    States.EMPTY.make().leastSalary(employee, net), want);
            }
        }
    }

    private static void sums() throws Exception {
        for (States state : States.values()) {
            int[] whats = {Integer.MIN_VALUE, -1, 0, 1, 2, 3, 4, 5, 6, 7, 8, 9, Integer.MAX_VALUE};
            for (int employee : edges(EMPLOYEE)) {
                for (int what : whats) {
                    boolean good = employee >= 0 && employee <= 2 && what >= 0 && what <= 8 && what != 4 && what != 6;
                    long got = state.make().total(employee, what);
                    told("34: total(" + employee + ", " + what + ") " + state, got, good, BAD);
                }
                int length = Math.max(0, state.make().statement(employee, -1));
                for (int i : edges(to(-1, length - 1))) {
                    boolean known = employee >= 0 && employee <= 2;
                    told("37: statement(" + employee + ", " + i + ") " + state, state.make().statement(employee, i),
                        known && i >= -1 && i < length, known ? NONE : BAD);
                }
            }
        }
        ranged("36", "account", States.FULL, BAD, MONTH, to(0, 4));
        notClosed("36", "account", States.EMPTY, 0, MONTH, to(0, 4));
        notClosed("36", "account", States.MIDDLE, 0, to(5, 11), to(0, 4));
        ranged("38", "lowest", States.MIDDLE, BAD, EMPLOYEE);
        ranged("38", "lowest", States.FULL, BAD, EMPLOYEE);
    }

    private static void theBuffer() throws Exception {
        ranged("40", "feed", States.EMPTY, BAD, to(32, 126));
        full("40", "feed", to(32, 126));
    }

    private static int[] to(int least, int greatest) {
        return new int[] {least, greatest};
    }

    private static int[] edges(int[] range) {
        return new int[] {Integer.MIN_VALUE, Math.min(range[0], range[1]) - 1, range[0], range[1],
            Math.max(range[0], range[1]) + 1, Integer.MAX_VALUE};
    }

    private static int[][] allEdges(int[][] ranges) {
        int[][] values = new int[ranges.length][];
        for (int i = 0; i < ranges.length; i++) {
            values[i] = edges(ranges[i]);
        }
        return values;
    }

    /** What is in range is answered, anything else is refused with a code. */
    private static void ranged(String promise, String name, States state, long code, int[]... ranges)
            throws Exception {
        tryAll(promise + ": " + name, state, ANSWERED, code, ranges, allEdges(ranges));
    }

    /** In a full state, what is in range answers FULL, and anything else still BAD. */
    private static void full(String promise, String name, int[]... ranges) throws Exception {
        tryAll(promise + ": " + name, States.FULL, FULL, BAD, ranges, allEdges(ranges));
    }

    /** When all months are closed, what is in range answers NONE, and anything else still BAD. */
    private static void allClosed(String promise, String name, int[]... ranges) throws Exception {
        tryAll(promise + ": " + name, States.FULL, NONE, BAD, ranges, allEdges(ranges));
    }

    /** A month that is not closed answers NONE, but only where no argument is out of range. */
    private static void notClosed(String promise, String name, States state, int monthAt, int[]... ranges)
            throws Exception {
        int closed = state.make().closed();
        int[][] values = allEdges(ranges);
        values[monthAt] = new int[] {Integer.MIN_VALUE, -1, closed, 11, 12, Integer.MAX_VALUE};
        tryAll(promise + ": " + name, state, NONE, BAD, ranges, values);
    }

    /** Each value of each argument with each of all others. */
    private static void tryAll(String promiseAndName, States state, long inRange, long outOfRange, int[][] ranges,
            int[][] values) throws Exception {
        Class<?>[] types = new Class<?>[ranges.length];
        Arrays.fill(types, int.class);
        String name = promiseAndName.substring(promiseAndName.indexOf(' ') + 1);
        Method method = PayrollRun.class.getMethod(name, types);
        int all = (int) Math.pow(6, ranges.length);
        for (int n = 0; n < all; n++) {
            Object[] arguments = new Object[ranges.length];
            boolean good = true;
            int rest = n;
            for (int i = 0; i < ranges.length; i++) {
                int value = values[i][rest % 6];
                rest /= 6;
                arguments[i] = value;
                good = good && value >= ranges[i][0] && value <= ranges[i][1];
            }
            long got = ((Number) method.invoke(state.make(), arguments)).longValue();
            String call = promiseAndName + Arrays.toString(arguments) + " " + state;
            if (inRange == ANSWERED) {
                told(call, got, good, outOfRange);
            } else {
                check.same(call, got, good ? inRange : outOfRange);
            }
        }
    }

    /** An answer is there, and is no error code, or it is the code that is due. */
    private static void told(String call, long got, boolean good, long code) {
        if (good) {
            boolean refused = got == BAD || got == NONE || got == FULL || got == NO_AMOUNT;
            check.same(call + " is not answered with " + got, refused ? 1 : 0, 0);
        } else {
            check.same(call, got, code);
        }
    }
}
