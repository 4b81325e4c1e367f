import java.math.BigInteger;
import java.util.ArrayList;
import java.util.Arrays;
import java.util.List;
import java.util.regex.Matcher;
import java.util.regex.Pattern;

/**
 * A second program for the document, made to differ in its ways from the first: the tax by steps of
 * the rate, slips as lists of lines out of which everything settled is summed again, undo by whole
 * copies, commands by a pattern. ModelTest compares the two.
 */
final class Model {
    private static final int BAD = -1;
    private static final int NONE = -2;
    private static final int FULL = -3;
    private static final BigInteger MILLION = BigInteger.valueOf(1000000);
    private static final BigInteger THOUSAND = BigInteger.valueOf(1000);
    private static final String[] NAMES =
        {"gross", "social", "health", "tax", "owed", "garnish", "carry", "pay"};
    private static final Pattern COMMANDS;
    private static final List<String> WORDS = Arrays.asList("salary", "days", "bonus", "floor", "rate",
        "cap", "bracket", "fixed", "share", "drop", "move", "close");

    static {
        String number = "( [0-9]{1,5})";
        String command = "((salary|days|bonus|fixed|share|move)" + number + "{3}|(floor|rate|cap|bracket|drop)"
            + number + "{2}|close)";
        COMMANDS = Pattern.compile(command + "(;" + command + ")*");
    }

    static final class Line {
        final int kind;
        final int index;
        final int reason;
        final long amount;

        Line(int kind, int index, int reason, long amount) {
            this.kind = kind;
            this.index = index;
            this.reason = reason;
            this.amount = amount;
        }

        String text() {
            return NAMES[kind] + " " + index + " " + reason + " " + amount + ";";
        }
    }

    static final class Garnishment {
        final int kind;
        final int size;
        final int debt;
        long rest;

        Garnishment(int kind, int size, int debt, long rest) {
            this.kind = kind;
            this.size = size;
            this.debt = debt;
            this.rest = rest;
        }
    }

    static final class Person {
        int[] salary = new int[12];
        int[] days = new int[12];
        int[] bonus = new int[12];
        int[] salaryThen = new int[12];
        int[] daysThen = new int[12];
        int[] bonusThen = new int[12];
        int floor;
        long owed;
        List<Garnishment> garnishments = new ArrayList<>();
        List<List<Line>> slips = new ArrayList<>();

        Person copy() {
            Person twin = new Person();
            twin.salary = salary.clone();
            twin.days = days.clone();
            twin.bonus = bonus.clone();
            twin.salaryThen = salaryThen.clone();
            twin.daysThen = daysThen.clone();
            twin.bonusThen = bonusThen.clone();
            twin.floor = floor;
            twin.owed = owed;
            for (Garnishment g : garnishments) {
                twin.garnishments.add(new Garnishment(g.kind, g.size, g.debt, g.rest));
            }
            for (List<Line> slip : slips) {
                twin.slips.add(new ArrayList<>(slip));
            }
            return twin;
        }

        BigInteger gross(int fromMonth, int upToMonth) {
            long sum = 0;
            for (int m = fromMonth; m < upToMonth; m++) {
                sum += (long) salary[m] * days[m] / 30 + bonus[m];
            }
            return BigInteger.valueOf(sum);
        }
    }

    static final class State {
        List<Person> people = new ArrayList<>();
        int[] rates = new int[2];
        int[] caps = {99999, 99999};
        List<int[]> brackets = new ArrayList<>();
        int closed;
        int years;
        boolean ruleSince;

        State copy() {
            State twin = new State();
            for (Person p : people) {
                twin.people.add(p.copy());
            }
            twin.rates = rates.clone();
            twin.caps = caps.clone();
            for (int[] b : brackets) {
                twin.brackets.add(b.clone());
            }
            twin.closed = closed;
            twin.years = years;
            twin.ruleSince = ruleSince;
            return twin;
        }
    }

    private State s = new State();
    private State snapshot = null;
    private final List<State> past = new ArrayList<>();
    private StringBuilder buffer = new StringBuilder();
    private boolean inCommands = false;

    Model() {
        for (int e = 0; e < 3; e++) {
            Person p = new Person();
            Arrays.fill(p.days, 30);
            s.people.add(p);
        }
    }

    private void remember() {
        if (!inCommands) {
            past.add(s.copy());
            if (past.size() > 6) {
                past.remove(0);
            }
        }
    }

    private static boolean out(int value, int least, int most) {
        return value < least || value > most;
    }

    int salary(int e, int m, int amount) {
        if (out(e, 0, 2) || out(m, 0, 11) || out(amount, 0, 9999)) {
            return BAD;
        }
        remember();
        Person p = s.people.get(e);
        int before = p.salary[m];
        Arrays.fill(p.salary, m, 12, amount);
        return before;
    }

    int days(int e, int m, int days) {
        if (out(e, 0, 2) || out(m, 0, 11) || out(days, 0, 30)) {
            return BAD;
        }
        remember();
        int before = s.people.get(e).days[m];
        s.people.get(e).days[m] = days;
        return before;
    }

    int bonus(int e, int m, int amount) {
        if (out(e, 0, 2) || out(m, 0, 11) || out(amount, 0, 9999)) {
            return BAD;
        }
        remember();
        int before = s.people.get(e).bonus[m];
        s.people.get(e).bonus[m] = amount;
        return before;
    }

    int setFloor(int e, int amount) {
        if (out(e, 0, 2) || out(amount, 0, 9999)) {
            return BAD;
        }
        remember();
        int before = s.people.get(e).floor;
        s.people.get(e).floor = amount;
        return before;
    }

    int setRate(int c, int rate) {
        if (out(c, 0, 1) || out(rate, 0, 499)) {
            return BAD;
        }
        remember();
        int before = s.rates[c];
        s.rates[c] = rate;
        s.ruleSince = true;
        return before;
    }

    int setCap(int c, int cap) {
        if (out(c, 0, 1) || out(cap, 0, 99999)) {
            return BAD;
        }
        remember();
        int before = s.caps[c];
        s.caps[c] = cap;
        s.ruleSince = true;
        return before;
    }

    int bracket(int threshold, int rate) {
        int last = s.brackets.isEmpty() ? -1 : s.brackets.get(s.brackets.size() - 1)[0];
        if (out(threshold, 0, 99999) || threshold <= last || out(rate, 0, 999)) {
            return BAD;
        }
        if (s.brackets.size() == 5) {
            return FULL;
        }
        remember();
        s.brackets.add(new int[] {threshold, rate});
        s.ruleSince = true;
        return s.brackets.size();
    }

    int clearBrackets() {
        remember();
        int before = s.brackets.size();
        s.brackets.clear();
        s.ruleSince = true;
        return before;
    }

    int fixed(int e, int amount, int debt) {
        return garnish(e, 0, amount, 9999, debt);
    }

    int share(int e, int share, int debt) {
        return garnish(e, 1, share, 1000, debt);
    }

    private int garnish(int e, int kind, int size, int most, int debt) {
        if (out(e, 0, 2) || out(size, 1, most) || out(debt, 1, 99999)) {
            return BAD;
        }
        List<Garnishment> list = s.people.get(e).garnishments;
        if (list.size() == 3) {
            return FULL;
        }
        remember();
        s.people.get(e).garnishments.add(new Garnishment(kind, size, debt, debt * 1000000L));
        return s.people.get(e).garnishments.size();
    }

    private Garnishment at(int e, int position) {
        if (out(e, 0, 2) || out(position, 0, s.people.get(e).garnishments.size() - 1)) {
            return null;
        }
        return s.people.get(e).garnishments.get(position);
    }

    int dropGarnishment(int e, int position) {
        if (at(e, position) == null) {
            return BAD;
        }
        remember();
        s.people.get(e).garnishments.remove(position);
        return s.people.get(e).garnishments.size();
    }

    int moveGarnishment(int e, int position, int to) {
        if (at(e, position) == null || at(e, to) == null) {
            return BAD;
        }
        remember();
        Garnishment g = s.people.get(e).garnishments.remove(position);
        s.people.get(e).garnishments.add(to, g);
        return g.kind;
    }

    private BigInteger contribution(int c, BigInteger gross) {
        return gross.min(BigInteger.valueOf(s.caps[c])).multiply(BigInteger.valueOf(s.rates[c]))
            .multiply(THOUSAND);
    }

    private BigInteger taxable(BigInteger gross) {
        return gross.multiply(MILLION).subtract(contribution(0, gross)).subtract(contribution(1, gross));
    }

    /** Each bracket changes the rate for all that lies above its threshold. */
    private BigInteger tax(BigInteger taxable) {
        BigInteger sum = BigInteger.ZERO;
        int rateBelow = 0;
        for (int[] b : s.brackets) {
            BigInteger above = taxable.subtract(BigInteger.valueOf(b[0]).multiply(MILLION)).max(BigInteger.ZERO);
            sum = sum.add(above.multiply(BigInteger.valueOf(b[1] - rateBelow)));
            rateBelow = b[1];
        }
        BigInteger[] parts = sum.divideAndRemainder(THOUSAND);
        if (parts[1].signum() != 0) {
            throw new IllegalStateException("a tax is not exact in millionths");
        }
        return parts[0];
    }

    private BigInteger on(int kind, BigInteger gross) {
        switch (kind) {
            case 0:
                return gross.multiply(MILLION);
            case 1:
            case 2:
                return contribution(kind - 1, gross);
            case 3:
                return tax(taxable(gross));
            default:
                return taxable(gross).subtract(tax(taxable(gross)));
        }
    }

    private long dueOf(Person p, int m, int kind) {
        if (kind == 4) {
            return dueOf(p, m, 0) - dueOf(p, m, 1) - dueOf(p, m, 2) - dueOf(p, m, 3);
        }
        return on(kind, p.gross(0, m + 1)).subtract(on(kind, p.gross(0, m))).longValueExact();
    }

    private static long settledOf(Person p, int m, int kind) {
        if (kind == 4) {
            return settledOf(p, m, 0) - settledOf(p, m, 1) - settledOf(p, m, 2) - settledOf(p, m, 3);
        }
        long sum = 0;
        for (List<Line> slip : p.slips) {
            for (Line line : slip) {
                if (line.kind == kind && line.index == m) {
                    sum += kind == 0 ? line.amount : -line.amount;
                }
            }
        }
        return sum;
    }

    private static long sum(List<Line> slip) {
        long sum = 0;
        for (Line line : slip) {
            sum += line.amount;
        }
        return sum;
    }

    private int reason(Person p, int k) {
        if (p.salary[k] > p.salaryThen[k]) {
            return 1;
        }
        if (p.salary[k] < p.salaryThen[k]) {
            return 2;
        }
        if (p.days[k] != p.daysThen[k]) {
            return 3;
        }
        if (p.bonus[k] != p.bonusThen[k]) {
            return 4;
        }
        return s.ruleSince ? 5 : 6;
    }

    private void close(Person p) {
        int m = s.closed;
        List<Line> slip = new ArrayList<>();
        for (int kind = 0; kind < 4; kind++) {
            long amount = dueOf(p, m, kind);
            slip.add(new Line(kind, m, 0, kind == 0 ? amount : -amount));
        }
        for (int k = 0; k < m; k++) {
            for (int kind = 0; kind < 4; kind++) {
                long amount = dueOf(p, k, kind) - settledOf(p, k, kind);
                if (amount != 0) {
                    slip.add(new Line(kind, k, reason(p, k), kind == 0 ? amount : -amount));
                }
            }
        }
        if (p.owed != 0) {
            slip.add(new Line(4, 0, 0, -p.owed));
        }
        long balance = sum(slip);
        long guarantee = Math.min(p.floor * 1000000L, dueOf(p, m, 4));
        p.owed = balance < guarantee ? guarantee - balance : 0;
        long above = Math.max(balance, guarantee) - p.floor * 1000000L;
        if (above < 0) {
            above = 0;
        }
        long left = above;
        for (int i = 0; i < p.garnishments.size(); i++) {
            Garnishment g = p.garnishments.get(i);
            if (g.rest == 0) {
                continue;
            }
            long wants = g.kind == 0 ? g.size * 1000000L
                : BigInteger.valueOf(above).multiply(BigInteger.valueOf(g.size)).divide(THOUSAND).longValueExact();
            if (wants > g.rest) {
                wants = g.rest;
            }
            long takes = wants;
            if (takes > left) {
                takes = left;
            }
            left -= takes;
            g.rest -= takes;
            int reason = g.rest == 0 ? 4 : takes == wants ? 1 : takes != 0 ? 2 : 3;
            slip.add(new Line(5, i, reason, -takes));
        }
        if (p.owed != 0) {
            slip.add(new Line(6, 0, 0, p.owed));
        }
        slip.add(new Line(7, 0, 0, sum(slip)));
        p.slips.add(slip);
        p.salaryThen = p.salary.clone();
        p.daysThen = p.days.clone();
        p.bonusThen = p.bonus.clone();
    }

    int closeMonth() {
        if (s.closed == 12) {
            return NONE;
        }
        remember();
        for (Person p : s.people) {
            close(p);
        }
        s.closed++;
        s.ruleSince = false;
        return s.closed - 1;
    }

    int newYear() {
        if (s.closed != 12) {
            return NONE;
        }
        remember();
        for (Person p : s.people) {
            Arrays.fill(p.salary, p.salary[11]);
            Arrays.fill(p.days, 30);
            Arrays.fill(p.bonus, 0);
            p.garnishments.removeIf(g -> g.rest == 0);
            p.slips.clear();
        }
        s.closed = 0;
        s.years++;
        return s.years;
    }

    int closed() {
        return s.closed;
    }

    int data(int e, int m, int what) {
        if (out(e, 0, 2) || out(m, 0, 11) || out(what, 0, 2)) {
            return BAD;
        }
        Person p = s.people.get(e);
        return what == 0 ? p.salary[m] : what == 1 ? p.days[m] : p.bonus[m];
    }

    int setting(int what, int index) {
        if (what == 0 && !out(index, 0, 2)) {
            return s.people.get(index).floor;
        }
        if ((what == 1 || what == 2) && !out(index, 0, 1)) {
            return what == 1 ? s.rates[index] : s.caps[index];
        }
        if ((what == 3 || what == 4) && !out(index, 0, s.brackets.size() - 1)) {
            return s.brackets.get(index)[what - 3];
        }
        return what == 5 && index == 0 ? s.brackets.size() : BAD;
    }

    int garnishment(int e, int position, int what) {
        if (!out(e, 0, 2) && position == -1 && what == 0) {
            return s.people.get(e).garnishments.size();
        }
        Garnishment g = at(e, position);
        if (g == null || out(what, 0, 2)) {
            return BAD;
        }
        return what == 0 ? g.kind : what == 1 ? g.size : g.debt;
    }

    long rest(int e, int position) {
        Garnishment g = at(e, position);
        return g == null ? BAD : g.rest;
    }

    long due(int e, int m, int kind) {
        if (out(e, 0, 2) || out(m, 0, 11) || out(kind, 0, 4)) {
            return BAD;
        }
        return dueOf(s.people.get(e), m, kind);
    }

    long settled(int e, int m, int kind) {
        if (out(e, 0, 2) || out(m, 0, 11) || out(kind, 0, 4)) {
            return BAD;
        }
        return m >= s.closed ? NONE : settledOf(s.people.get(e), m, kind);
    }

    long pending(int e) {
        if (out(e, 0, 2)) {
            return Long.MIN_VALUE;
        }
        long sum = 0;
        for (int m = 0; m < s.closed; m++) {
            sum += due(e, m, 4) - settled(e, m, 4);
        }
        return sum;
    }

    long owed(int e) {
        return out(e, 0, 2) ? BAD : s.people.get(e).owed;
    }

    private List<Line> slip(int e, int m) {
        return s.people.get(e).slips.get(m);
    }

    int lineCount(int e, int m) {
        if (out(e, 0, 2) || out(m, 0, 11)) {
            return BAD;
        }
        return m >= s.closed ? NONE : slip(e, m).size();
    }

    int line(int e, int m, int i, int what) {
        if (out(e, 0, 2) || out(m, 0, 11) || out(what, 0, 2)) {
            return BAD;
        }
        if (m >= s.closed || out(i, 0, slip(e, m).size() - 1)) {
            return NONE;
        }
        Line line = slip(e, m).get(i);
        return what == 0 ? line.kind : what == 1 ? line.index : line.reason;
    }

    long amount(int e, int m, int i) {
        if (out(e, 0, 2) || out(m, 0, s.closed - 1) || out(i, 0, slip(e, m).size() - 1)) {
            return Long.MIN_VALUE;
        }
        return slip(e, m).get(i).amount;
    }

    private static int sign(String text, int i) {
        return i == -1 ? text.length() : out(i, 0, text.length() - 1) ? NONE : text.charAt(i);
    }

    int letter(int e, int m, int i) {
        if (out(e, 0, 2) || out(m, 0, 11)) {
            return BAD;
        }
        if (m >= s.closed) {
            return NONE;
        }
        StringBuilder text = new StringBuilder();
        for (Line line : slip(e, m)) {
            text.append(line.text());
        }
        return sign(text.toString(), i);
    }

    long payout(int e, int m) {
        if (out(e, 0, 2) || out(m, 0, 11)) {
            return BAD;
        }
        return m >= s.closed ? NONE : ofKind(slip(e, m), 7);
    }

    private static long ofKind(List<Line> slip, int kind) {
        long sum = 0;
        for (Line line : slip) {
            sum += line.kind == kind ? line.amount : 0;
        }
        return sum;
    }

    /** Closes up to some months on a copy, with more bonus in the first, and answers the payouts' sum. */
    private long trial(int e, int months, int more) {
        State kept = s;
        s = s.copy();
        Person p = s.people.get(e);
        p.bonus[s.closed] += more;
        long sum = 0;
        for (int i = 0; i < months; i++) {
            close(p);
            sum += ofKind(p.slips.get(s.closed), 7);
            s.closed++;
        }
        s = kept;
        return sum;
    }

    long preview(int e) {
        return out(e, 0, 2) ? BAD : s.closed == 12 ? NONE : trial(e, 1, 0);
    }

    long marginal(int e) {
        return out(e, 0, 2) ? BAD : s.closed == 12 ? NONE : trial(e, 1, 1) - trial(e, 1, 0);
    }

    int leastSalary(int e, int net) {
        if (out(e, 0, 2) || out(net, 0, 99999)) {
            return BAD;
        }
        if (s.closed == 12) {
            return NONE;
        }
        Person p = s.people.get(e).copy();
        for (int salary = 0; salary <= 9999; salary++) {
            p.salary[s.closed] = salary;
            if (dueOf(p, s.closed, 4) >= net * 1000000L) {
                return salary;
            }
        }
        return NONE;
    }

    long projected(int e) {
        if (out(e, 0, 2)) {
            return BAD;
        }
        long past = 0;
        for (int m = 0; m < s.closed; m++) {
            past += payout(e, m);
        }
        return s.closed == 12 ? past : past + trial(e, 12 - s.closed, 0);
    }

    long total(int e, int what) {
        if (out(e, 0, 2) || out(what, 0, 8) || what == 4 || what == 6) {
            return BAD;
        }
        long sum = 0;
        for (List<Line> slip : s.people.get(e).slips) {
            sum += what == 8 ? ofKind(slip, 4) + ofKind(slip, 6) : ofKind(slip, what);
        }
        return what == 0 || what >= 7 ? sum : -sum;
    }

    long oneRun(int e, int what) {
        if (out(e, 0, 2) || out(what, 0, 4)) {
            return BAD;
        }
        return on(what, s.people.get(e).gross(0, s.closed)).longValueExact();
    }

    long account(int m, int what) {
        if (out(m, 0, 11) || out(what, 0, 4)) {
            return BAD;
        }
        if (m >= s.closed) {
            return NONE;
        }
        int kind = new int[] {3, 1, 2, 5, 7}[what];
        long sum = 0;
        for (int e = 0; e < 3; e++) {
            sum += ofKind(slip(e, m), kind);
        }
        return what == 4 ? sum : -sum;
    }

    int statement(int e, int i) {
        if (out(e, 0, 2)) {
            return BAD;
        }
        StringBuilder text = new StringBuilder();
        int[][] lines = {{0, 0}, {1, 1}, {2, 2}, {3, 3}, {5, 5}, {6, 8}, {7, 7}};
        for (int[] l : lines) {
            int reason = l[0] < 4 && total(e, l[1]) != oneRun(e, l[1]) ? 1 : 0;
            text.append(new Line(l[0], s.closed, reason, total(e, l[1])).text());
        }
        return sign(text.toString(), i);
    }

    int lowest(int e) {
        if (out(e, 0, 2)) {
            return BAD;
        }
        int best = NONE;
        for (int m = s.closed - 1; m >= 0; m--) {
            if (best == NONE || payout(e, m) <= payout(e, best)) {
                best = m;
            }
        }
        return best;
    }

    int corrections(int e, int m) {
        if (out(e, 0, 2) || out(m, 0, 11)) {
            return BAD;
        }
        if (m >= s.closed) {
            return NONE;
        }
        int bits = 0;
        for (Line line : slip(e, m)) {
            if (line.kind < 4 && line.index != m) {
                bits |= 1 << line.index;
            }
        }
        return bits;
    }

    int feed(int letter) {
        if (out(letter, 32, 126)) {
            return BAD;
        }
        if (buffer.length() == 60) {
            return FULL;
        }
        buffer.append((char) letter);
        return buffer.length();
    }

    private static boolean canGoOn(String start) {
        Matcher matcher = COMMANDS.matcher(start);
        return matcher.matches() || matcher.hitEnd();
    }

    /** The error position, or -1. */
    static int errorPosition(String text) {
        if (COMMANDS.matcher(text).matches()) {
            return -1;
        }
        int at = 0;
        while (at < text.length() && canGoOn(text.substring(0, at + 1))) {
            at++;
        }
        int start = text.lastIndexOf(';', at - 1) + 1;
        Matcher word = Pattern.compile("[a-z]*").matcher(text.substring(start));
        word.lookingAt();
        return WORDS.contains(word.group()) ? at : start;
    }

    private int perform(String command) {
        String[] parts = command.split(" ");
        int[] n = new int[3];
        for (int i = 1; i < parts.length; i++) {
            n[i - 1] = Integer.parseInt(parts[i]);
        }
        switch (parts[0]) {
            case "salary":
                return salary(n[0], n[1], n[2]);
            case "days":
                return days(n[0], n[1], n[2]);
            case "bonus":
                return bonus(n[0], n[1], n[2]);
            case "floor":
                return setFloor(n[0], n[1]);
            case "rate":
                return setRate(n[0], n[1]);
            case "cap":
                return setCap(n[0], n[1]);
            case "bracket":
                return bracket(n[0], n[1]);
            case "fixed":
                return fixed(n[0], n[1], n[2]);
            case "share":
                return share(n[0], n[1], n[2]);
            case "drop":
                return dropGarnishment(n[0], n[1]);
            case "move":
                return moveGarnishment(n[0], n[1], n[2]);
            case "close":
                return closeMonth();
            default:
                throw new IllegalStateException(command);
        }
    }

    int execute() {
        String text = buffer.toString();
        buffer = new StringBuilder();
        int error = errorPosition(text);
        if (error >= 0) {
            return -100 - error;
        }
        State before = s.copy();
        inCommands = true;
        int start = 0;
        int count = 0;
        for (String command : text.split(";")) {
            if (perform(command) < 0) {
                s = before;
                inCommands = false;
                return -200 - start;
            }
            start += command.length() + 1;
            count++;
        }
        inCommands = false;
        State after = s;
        s = before;
        remember();
        s = after;
        return count;
    }

    int save() {
        snapshot = s.copy();
        return s.closed;
    }

    int restore() {
        if (snapshot == null) {
            return NONE;
        }
        remember();
        s = snapshot.copy();
        return s.closed;
    }

    int undo() {
        if (past.isEmpty()) {
            return NONE;
        }
        s = past.remove(past.size() - 1);
        return past.size();
    }
}
