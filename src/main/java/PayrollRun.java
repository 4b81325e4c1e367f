/** A payroll run for one year: the promises stand in ../shared/DOC.md, how to use it in README.md. */
public final class PayrollRun {
    public static final int BAD = -1;
    public static final int NONE = -2;
    public static final int FULL = -3;

    private static final int EMPLOYEES = 3;
    private static final int MONTHS = 12;
    private static final int CONTRIBUTIONS = 2;
    private static final int BRACKETS_MOST = 5;
    private static final int GARNISHMENTS_MOST = 3;
    private static final int CHANGES_MOST = 6;

    private static final int MONEY_MOST = 9999;
    private static final int DAYS_MOST = 30;
    private static final int RATE_MOST = 499;
    private static final int BRACKET_RATE_MOST = 999;
    private static final int SHARE_MOST = 1000;
    private static final int LIMIT_MOST = 99999;

    /** A unit in millionths. */
    private static final long UNIT = 1000000L;
    /** Rates and shares are in thousandths. */
    private static final long THOUSAND = 1000L;
    /** Long.MIN_VALUE, for amounts that may be any other number. */
    private static final long NO_AMOUNT = 1L << 63;

    // What an employee's data of a month are.
    private static final int SALARY = 0;
    private static final int DAYS = 1;
    private static final int BONUS = 2;
    private static final int ENTRIES = 3;

    // The kinds of lines; the first four are due amounts too.
    private static final int GROSS = 0;
    private static final int SOCIAL = 1;
    private static final int HEALTH = 2;
    private static final int TAX = 3;
    private static final int OWED = 4;
    private static final int GARNISH = 5;
    private static final int CARRY = 6;
    private static final int PAY = 7;

    /** As a due amount, 4 is not what is owed, but the net pay. */
    private static final int NET = 4;
    private static final int DUE_KINDS = 5;

    /** What total calls the lines owed and carry together. */
    private static final int TOTAL_OWED_AND_CARRY = 8;

    private static final int[] STATEMENT_KINDS = {GROSS, SOCIAL, HEALTH, TAX, GARNISH, CARRY, PAY};
    private static final int[] STATEMENT_TOTALS =
        {GROSS, SOCIAL, HEALTH, TAX, GARNISH, TOTAL_OWED_AND_CARRY, PAY};
    private static final int[] ACCOUNT_KINDS = {TAX, SOCIAL, HEALTH, GARNISH, PAY};

    private static final int SYNTAX_ERROR = -100;
    private static final int COMMAND_ERROR = -200;

    private final Books now = new Books();
    private final History history = new History();
    private final Books snapshot = new Books();
    private boolean saved = false;
    private final CommandText commands = new CommandText();
    private final Closing closing = new Closing();
    private final Trial trial = new Trial();
    private final SlipText text = new SlipText();

    public PayrollRun() {
    }

    public int salary(int employee, int month, int amount) {
        history.begin(now);
        return finish(now.changeSalary(employee, month, amount));
    }

    public int days(int employee, int month, int days) {
        history.begin(now);
        return finish(now.changeDays(employee, month, days));
    }

    public int bonus(int employee, int month, int amount) {
        history.begin(now);
        return finish(now.changeBonus(employee, month, amount));
    }

    public int setFloor(int employee, int amount) {
        history.begin(now);
        return finish(now.changeFloor(employee, amount));
    }

    public int setRate(int contribution, int rate) {
        history.begin(now);
        return finish(now.changeRate(contribution, rate));
    }

    public int setCap(int contribution, int cap) {
        history.begin(now);
        return finish(now.changeCap(contribution, cap));
    }

    public int bracket(int threshold, int rate) {
        history.begin(now);
        return finish(now.addBracket(threshold, rate));
    }

    public int clearBrackets() {
        history.begin(now);
        return finish(now.removeBrackets());
    }

    public int fixed(int employee, int amount, int debt) {
        history.begin(now);
        return finish(now.addFixed(employee, amount, debt));
    }

    public int share(int employee, int share, int debt) {
        history.begin(now);
        return finish(now.addShare(employee, share, debt));
    }

    public int dropGarnishment(int employee, int position) {
        history.begin(now);
        return finish(now.removeGarnishment(employee, position));
    }

    public int moveGarnishment(int employee, int position, int to) {
        history.begin(now);
        return finish(now.shiftGarnishment(employee, position, to));
    }

    public int closeMonth() {
        history.begin(now);
        return finish(now.closeNext(closing));
    }

    public int newYear() {
        history.begin(now);
        return finish(now.beginYear());
    }

    public int closed() {
        return now.closedMonths;
    }

    public int data(int employee, int month, int what) {
        if (!isEmployee(employee) || !isMonth(month) || !within(what, 0, ENTRIES - 1)) {
            return BAD;
        }
        return now.workers[employee].entries[what * MONTHS + month];
    }

    public int setting(int what, int index) {
        if (what == 0) {
            return isEmployee(index) ? now.workers[index].floor : BAD;
        }
        return now.rules.ruleAt(what, index);
    }

    public int garnishment(int employee, int position, int what) {
        if (!isEmployee(employee)) {
            return BAD;
        }
        Garnishments garnishments = now.workers[employee].garnishments;
        if (position == -1 && what == 0) {
            return garnishments.count;
        }
        if (!garnishments.has(position)) {
            return BAD;
        }
        switch (what) {
            case 0:
                return garnishments.kinds[position];
            case 1:
                return garnishments.sizes[position];
            case 2:
                return garnishments.debts[position];
            default:
                return BAD;
        }
    }

    public long rest(int employee, int position) {
        if (!isEmployee(employee)) {
            return BAD;
        }
        Garnishments garnishments = now.workers[employee].garnishments;
        return garnishments.has(position) ? garnishments.rests[position] : BAD;
    }

    public long due(int employee, int month, int kind) {
        if (!isEmployee(employee) || !isMonth(month) || !within(kind, 0, DUE_KINDS - 1)) {
            return BAD;
        }
        now.rules.fillDues(now.workers[employee], closing.dues);
        return closing.dues[kind * MONTHS + month];
    }

    public long settled(int employee, int month, int kind) {
        if (!isEmployee(employee) || !isMonth(month) || !within(kind, 0, DUE_KINDS - 1)) {
            return BAD;
        }
        if (month >= now.closedMonths) {
            return NONE;
        }
        return now.workers[employee].settledAmounts[kind * MONTHS + month];
    }

    public long pending(int employee) {
        if (!isEmployee(employee)) {
            return NO_AMOUNT;
        }
        Worker worker = now.workers[employee];
        now.rules.fillDues(worker, closing.dues);
        long sum = 0;
        for (int month = 0; month < MONTHS && month < now.closedMonths; month++) {
            int net = NET * MONTHS + month;
            sum += closing.dues[net] - worker.settledAmounts[net];
        }
        return sum;
    }

    public long owed(int employee) {
        return isEmployee(employee) ? now.workers[employee].owed : BAD;
    }

    public int lineCount(int employee, int month) {
        if (!isEmployee(employee) || !isMonth(month)) {
            return BAD;
        }
        Slip slip = now.workers[employee].slips[month];
        return slip == null ? NONE : slip.count;
    }

    public int line(int employee, int month, int i, int what) {
        if (!isEmployee(employee) || !isMonth(month) || !within(what, 0, Slip.PARTS - 1)) {
            return BAD;
        }
        Slip slip = now.workers[employee].slips[month];
        if (slip == null || !slip.has(i)) {
            return NONE;
        }
        return slip.parts[what * Slip.LINES_MOST + i];
    }

    public long amount(int employee, int month, int i) {
        if (!isEmployee(employee) || !isMonth(month)) {
            return NO_AMOUNT;
        }
        Slip slip = now.workers[employee].slips[month];
        if (slip == null || !slip.has(i)) {
            return NO_AMOUNT;
        }
        return slip.amounts[i];
    }

    public int letter(int employee, int month, int i) {
        if (!isEmployee(employee) || !isMonth(month)) {
            return BAD;
        }
        Slip slip = now.workers[employee].slips[month];
        if (slip == null) {
            return NONE;
        }
        text.writeSlip(slip);
        return text.signAt(i);
    }

    public long payout(int employee, int month) {
        if (!isEmployee(employee) || !isMonth(month)) {
            return BAD;
        }
        Slip slip = now.workers[employee].slips[month];
        return slip == null ? NONE : slip.paid();
    }

    public long preview(int employee) {
        if (!isEmployee(employee)) {
            return BAD;
        }
        if (now.closedMonths >= MONTHS) {
            return NONE;
        }
        return trial.nextPayout(now, employee, 0);
    }

    public long marginal(int employee) {
        if (!isEmployee(employee)) {
            return BAD;
        }
        if (now.closedMonths >= MONTHS) {
            return NONE;
        }
        return trial.nextPayout(now, employee, 1) - trial.nextPayout(now, employee, 0);
    }

    public int leastSalary(int employee, int net) {
        if (!isEmployee(employee) || !within(net, 0, LIMIT_MOST)) {
            return BAD;
        }
        if (now.closedMonths >= MONTHS) {
            return NONE;
        }
        return trial.leastSalaryFor(now, employee, net * UNIT);
    }

    public long projected(int employee) {
        if (!isEmployee(employee)) {
            return BAD;
        }
        return now.workers[employee].totalOf(PAY) + trial.payoutsToCome(now, employee);
    }

    public long total(int employee, int what) {
        boolean described = within(what, GROSS, TAX) || what == GARNISH || what == PAY
            || what == TOTAL_OWED_AND_CARRY;
        if (!isEmployee(employee) || !described) {
            return BAD;
        }
        return now.workers[employee].totalOf(what);
    }

    public long oneRun(int employee, int what) {
        if (!isEmployee(employee) || !within(what, 0, DUE_KINDS - 1)) {
            return BAD;
        }
        return now.inOneRun(employee, what);
    }

    public long account(int month, int what) {
        if (!isMonth(month) || !within(what, 0, ACCOUNT_KINDS.length - 1)) {
            return BAD;
        }
        if (month >= now.closedMonths) {
            return NONE;
        }
        int kind = ACCOUNT_KINDS[what];
        long sum = now.sumOfSlips(month, kind);
        return kind == PAY ? sum : -sum;
    }

    public int statement(int employee, int i) {
        if (!isEmployee(employee)) {
            return BAD;
        }
        text.clear();
        for (int at = 0; at < STATEMENT_KINDS.length && at < STATEMENT_TOTALS.length; at++) {
            int kind = STATEMENT_KINDS[at];
            long sum = now.workers[employee].totalOf(STATEMENT_TOTALS[at]);
            boolean differs = kind <= TAX && sum != now.inOneRun(employee, kind);
            text.writeLine(kind, now.closedMonths, differs ? 1 : 0, sum);
        }
        return text.signAt(i);
    }

    public int lowest(int employee) {
        return isEmployee(employee) ? now.workers[employee].lowestPaid() : BAD;
    }

    public int corrections(int employee, int month) {
        if (!isEmployee(employee) || !isMonth(month)) {
            return BAD;
        }
        Slip slip = now.workers[employee].slips[month];
        return slip == null ? NONE : slip.correctedMonths(month);
    }

    public int feed(int letter) {
        return commands.append(letter);
    }

    public int execute() {
        int error = commands.read();
        commands.clear();
        if (error != CommandText.NO_ERROR) {
            return SYNTAX_ERROR - error;
        }
        history.begin(now);
        for (int i = 0; i < commands.count; i++) {
            if (perform(i) < 0) {
                history.takeBack(now);
                return COMMAND_ERROR - commands.startOf(i);
            }
        }
        return finish(commands.count);
    }

    public int save() {
        snapshot.copyFrom(now);
        saved = true;
        return now.closedMonths;
    }

    public int restore() {
        if (!saved) {
            return NONE;
        }
        history.begin(now);
        now.copyFrom(snapshot);
        return finish(now.closedMonths);
    }

    public int undo() {
        return history.stepBack(now);
    }

    /** A call that returned an error code changed nothing: it can't be undone. */
    private int finish(int answer) {
        if (answer >= 0) {
            history.commit();
        }
        return answer;
    }

    private int perform(int command) {
        int first = commands.numberOf(command, 0);
        int second = commands.numberOf(command, 1);
        int third = commands.numberOf(command, 2);
        switch (commands.wordOf(command)) {
            case CommandText.SALARY_WORD:
                return now.changeSalary(first, second, third);
            case CommandText.DAYS_WORD:
                return now.changeDays(first, second, third);
            case CommandText.BONUS_WORD:
                return now.changeBonus(first, second, third);
            case CommandText.FLOOR_WORD:
                return now.changeFloor(first, second);
            case CommandText.RATE_WORD:
                return now.changeRate(first, second);
            case CommandText.CAP_WORD:
                return now.changeCap(first, second);
            case CommandText.BRACKET_WORD:
                return now.addBracket(first, second);
            case CommandText.FIXED_WORD:
                return now.addFixed(first, second, third);
            case CommandText.SHARE_WORD:
                return now.addShare(first, second, third);
            case CommandText.DROP_WORD:
                return now.removeGarnishment(first, second);
            case CommandText.MOVE_WORD:
                return now.shiftGarnishment(first, second, third);
            case CommandText.CLOSE_WORD:
                return now.closeNext(closing);
            default:
                return BAD;
        }
    }

    private static boolean within(int value, int least, int most) {
        return value >= least && value <= most;
    }

    private static boolean isEmployee(int employee) {
        return within(employee, 0, EMPLOYEES - 1);
    }

    private static boolean isMonth(int month) {
        return within(month, 0, MONTHS - 1);
    }

    private static long grossPay(int salary, int days, int bonus) {
        return salary * days / DAYS_MOST + bonus;
    }

    /** The whole state without the buffer: what is saved, restored and undone. */
    private static final class Books {
        final Worker[] workers = new Worker[EMPLOYEES];
        final Rules rules = new Rules();
        int closedMonths = 0;
        int years = 0;
        /** Each closing settles every month up to its own, so one flag tells it for all of them. */
        boolean ruleSetSinceClosing = false;

        Books() {
            for (int i = 0; i < EMPLOYEES; i++) {
                workers[i] = new Worker();
            }
        }

        void copyFrom(Books other) {
            for (int i = 0; i < EMPLOYEES; i++) {
                workers[i].copyFrom(other.workers[i]);
            }
            rules.copyFrom(other.rules);
            closedMonths = other.closedMonths;
            years = other.years;
            ruleSetSinceClosing = other.ruleSetSinceClosing;
        }

        int changeSalary(int employee, int month, int amount) {
            if (!isEmployee(employee) || !isMonth(month) || !within(amount, 0, MONEY_MOST)) {
                return BAD;
            }
            int previous = workers[employee].entries[SALARY * MONTHS + month];
            for (int later = month; later < MONTHS; later++) {
                workers[employee].entries[SALARY * MONTHS + later] = amount;
            }
            return previous;
        }

        int changeDays(int employee, int month, int days) {
            if (!isEmployee(employee) || !isMonth(month) || !within(days, 0, DAYS_MOST)) {
                return BAD;
            }
            int previous = workers[employee].entries[DAYS * MONTHS + month];
            workers[employee].entries[DAYS * MONTHS + month] = days;
            return previous;
        }

        int changeBonus(int employee, int month, int amount) {
            if (!isEmployee(employee) || !isMonth(month) || !within(amount, 0, MONEY_MOST)) {
                return BAD;
            }
            int previous = workers[employee].entries[BONUS * MONTHS + month];
            workers[employee].entries[BONUS * MONTHS + month] = amount;
            return previous;
        }

        int changeFloor(int employee, int amount) {
            if (!isEmployee(employee) || !within(amount, 0, MONEY_MOST)) {
                return BAD;
            }
            int previous = workers[employee].floor;
            workers[employee].floor = amount;
            return previous;
        }

        int changeRate(int contribution, int rate) {
            if (!within(contribution, 0, CONTRIBUTIONS - 1) || !within(rate, 0, RATE_MOST)) {
                return BAD;
            }
            int previous = rules.rates[contribution];
            rules.rates[contribution] = rate;
            ruleSetSinceClosing = true;
            return previous;
        }

        int changeCap(int contribution, int cap) {
            if (!within(contribution, 0, CONTRIBUTIONS - 1) || !within(cap, 0, LIMIT_MOST)) {
                return BAD;
            }
            int previous = rules.caps[contribution];
            rules.caps[contribution] = cap;
            ruleSetSinceClosing = true;
            return previous;
        }

        int addBracket(int threshold, int rate) {
            if (!within(threshold, rules.leastThreshold(), LIMIT_MOST)
                    || !within(rate, 0, BRACKET_RATE_MOST)) {
                return BAD;
            }
            if (rules.brackets >= BRACKETS_MOST) {
                return FULL;
            }
            rules.thresholds[rules.brackets] = threshold;
            rules.bracketRates[rules.brackets] = rate;
            rules.brackets++;
            ruleSetSinceClosing = true;
            return rules.brackets;
        }

        int removeBrackets() {
            int removed = rules.brackets;
            rules.brackets = 0;
            ruleSetSinceClosing = true;
            return removed;
        }

        int addFixed(int employee, int amount, int debt) {
            if (!isEmployee(employee) || !within(amount, 1, MONEY_MOST) || !within(debt, 1, LIMIT_MOST)) {
                return BAD;
            }
            return workers[employee].garnishments.add(Garnishments.FIXED, amount, debt);
        }

        int addShare(int employee, int share, int debt) {
            if (!isEmployee(employee) || !within(share, 1, SHARE_MOST) || !within(debt, 1, LIMIT_MOST)) {
                return BAD;
            }
            return workers[employee].garnishments.add(Garnishments.SHARE, share, debt);
        }

        int removeGarnishment(int employee, int position) {
            if (!isEmployee(employee) || !workers[employee].garnishments.has(position)) {
                return BAD;
            }
            return workers[employee].garnishments.remove(position);
        }

        int shiftGarnishment(int employee, int position, int to) {
            if (!isEmployee(employee)) {
                return BAD;
            }
            Garnishments garnishments = workers[employee].garnishments;
            if (!garnishments.has(position) || !garnishments.has(to)) {
                return BAD;
            }
            garnishments.shift(position, to);
            return garnishments.kinds[to];
        }

        int closeNext(Closing closing) {
            int month = closedMonths;
            if (!isMonth(month)) {
                return NONE;
            }
            for (int i = 0; i < EMPLOYEES; i++) {
                Slip slip = new Slip();
                closing.close(workers[i], month, rules, ruleSetSinceClosing, slip);
                workers[i].slips[month] = slip;
            }
            closedMonths = month + 1;
            ruleSetSinceClosing = false;
            return month;
        }

        int beginYear() {
            if (closedMonths < MONTHS) {
                return NONE;
            }
            for (int i = 0; i < EMPLOYEES; i++) {
                workers[i].beginYear();
            }
            closedMonths = 0;
            years++;
            return years;
        }

        long inOneRun(int employee, int kind) {
            return rules.amountOn(kind, workers[employee].grossBefore(closedMonths));
        }

        long sumOfSlips(int month, int kind) {
            long sum = 0;
            for (int i = 0; i < EMPLOYEES; i++) {
                Slip slip = workers[i].slips[month];
                if (slip != null) {
                    sum += slip.sumOf(kind);
                }
            }
            return sum;
        }
    }

    /** What the contributions and the tax are reckoned by. */
    private static final class Rules {
        final int[] rates = new int[CONTRIBUTIONS];
        final int[] caps = {LIMIT_MOST, LIMIT_MOST};
        final int[] thresholds = new int[BRACKETS_MOST];
        final int[] bracketRates = new int[BRACKETS_MOST];
        int brackets = 0;

        void copyFrom(Rules other) {
            System.arraycopy(other.rates, 0, rates, 0, CONTRIBUTIONS);
            System.arraycopy(other.caps, 0, caps, 0, CONTRIBUTIONS);
            System.arraycopy(other.thresholds, 0, thresholds, 0, BRACKETS_MOST);
            System.arraycopy(other.bracketRates, 0, bracketRates, 0, BRACKETS_MOST);
            brackets = other.brackets;
        }

        int leastThreshold() {
            return within(brackets, 1, BRACKETS_MOST) ? thresholds[brackets - 1] + 1 : 0;
        }

        int ruleAt(int what, int index) {
            boolean contribution = within(index, 0, CONTRIBUTIONS - 1);
            boolean bracket = within(index, 0, brackets - 1);
            switch (what) {
                case 1:
                    return contribution ? rates[index] : BAD;
                case 2:
                    return contribution ? caps[index] : BAD;
                case 3:
                    return bracket ? thresholds[index] : BAD;
                case 4:
                    return bracket ? bracketRates[index] : BAD;
                case 5:
                    return index == 0 ? brackets : BAD;
                default:
                    return BAD;
            }
        }

        /** Puts what is due of every kind for every month at kind * MONTHS + month. */
        void fillDues(Worker worker, long[] dues) {
            if (dues.length < DUE_KINDS * MONTHS) {
                return;
            }
            for (int kind = 0; kind < DUE_KINDS; kind++) {
                long gross = 0;
                long before = 0;
                for (int month = 0; month < MONTHS; month++) {
                    gross += worker.grossOf(month);
                    long upToMonth = amountOn(kind, gross);
                    dues[kind * MONTHS + month] = upToMonth - before;
                    before = upToMonth;
                }
            }
        }

        /** The amount of a due kind on a sum of gross pays, which is in units. */
        long amountOn(int kind, long gross) {
            if (kind == GROSS) {
                return gross * UNIT;
            }
            long social = contributionOn(0, gross);
            if (kind == SOCIAL) {
                return social;
            }
            long health = contributionOn(1, gross);
            if (kind == HEALTH) {
                return health;
            }
            long taxable = gross * UNIT - social - health;
            long tax = taxOn(taxable);
            return kind == TAX ? tax : taxable - tax;
        }

        private long contributionOn(int contribution, long gross) {
            long cap = caps[contribution];
            return rates[contribution] * (gross < cap ? gross : cap) * (UNIT / THOUSAND);
        }

        private long taxOn(long taxable) {
            long tax = 0;
            for (int i = 0; i < brackets && i < BRACKETS_MOST; i++) {
                long lower = thresholds[i] * UNIT;
                long upper = taxable;
                if (i + 1 < brackets && i + 1 < BRACKETS_MOST && thresholds[i + 1] * UNIT < taxable) {
                    upper = thresholds[i + 1] * UNIT;
                }
                if (upper > lower) {
                    // Parts are whole thousands of millionths, so nothing is lost by dividing first.
                    tax += (upper - lower) / THOUSAND * bracketRates[i];
                }
            }
            return tax;
        }
    }

    /** All that is held of one employee. */
    private static final class Worker {
        /** Salaries, days and bonuses, at what * MONTHS + month; settledEntries likewise. */
        final int[] entries = new int[ENTRIES * MONTHS];
        final int[] settledEntries = new int[ENTRIES * MONTHS];
        /** The due amounts as they were last settled, at kind * MONTHS + month. */
        final long[] settledAmounts = new long[DUE_KINDS * MONTHS];
        /** Slips never change once a month is closed, so copies of a worker share them. */
        final Slip[] slips = new Slip[MONTHS];
        final Garnishments garnishments = new Garnishments();
        int floor = 0;
        long owed = 0;

        Worker() {
            for (int month = 0; month < MONTHS; month++) {
                entries[DAYS * MONTHS + month] = DAYS_MOST;
            }
        }

        void copyFrom(Worker other) {
            System.arraycopy(other.entries, 0, entries, 0, ENTRIES * MONTHS);
            System.arraycopy(other.settledEntries, 0, settledEntries, 0, ENTRIES * MONTHS);
            System.arraycopy(other.settledAmounts, 0, settledAmounts, 0, DUE_KINDS * MONTHS);
            for (int month = 0; month < MONTHS; month++) {
                slips[month] = other.slips[month];
            }
            garnishments.copyFrom(other.garnishments);
            floor = other.floor;
            owed = other.owed;
        }

        void beginYear() {
            int lastSalary = entries[SALARY * MONTHS + MONTHS - 1];
            for (int month = 0; month < MONTHS; month++) {
                entries[SALARY * MONTHS + month] = lastSalary;
                entries[DAYS * MONTHS + month] = DAYS_MOST;
                entries[BONUS * MONTHS + month] = 0;
                slips[month] = null;
            }
            garnishments.removePaid();
        }

        long grossOf(int month) {
            return grossPay(entries[SALARY * MONTHS + month], entries[DAYS * MONTHS + month],
                entries[BONUS * MONTHS + month]);
        }

        long grossBefore(int month) {
            long sum = 0;
            for (int earlier = 0; earlier < month && earlier < MONTHS; earlier++) {
                sum += grossOf(earlier);
            }
            return sum;
        }

        void settle(int month, long[] dues) {
            for (int kind = 0; kind < DUE_KINDS; kind++) {
                settledAmounts[kind * MONTHS + month] = dues[kind * MONTHS + month];
            }
            for (int what = 0; what < ENTRIES; what++) {
                settledEntries[what * MONTHS + month] = entries[what * MONTHS + month];
            }
        }

        /** Why a month is settled anew. */
        int reasonFor(int month, boolean ruleSet) {
            int salary = entries[SALARY * MONTHS + month];
            int settledSalary = settledEntries[SALARY * MONTHS + month];
            if (salary != settledSalary) {
                return salary > settledSalary ? 1 : 2;
            }
            if (entries[DAYS * MONTHS + month] != settledEntries[DAYS * MONTHS + month]) {
                return 3;
            }
            if (entries[BONUS * MONTHS + month] != settledEntries[BONUS * MONTHS + month]) {
                return 4;
            }
            return ruleSet ? 5 : 6;
        }

        /** A total of the document; what must be one that it describes. */
        long totalOf(int what) {
            if (what == GROSS || what == PAY) {
                return sumOf(what);
            }
            if (what == TOTAL_OWED_AND_CARRY) {
                return sumOf(OWED) + sumOf(CARRY);
            }
            return -sumOf(what);
        }

        private long sumOf(int kind) {
            long sum = 0;
            for (int month = 0; month < MONTHS; month++) {
                if (slips[month] != null) {
                    sum += slips[month].sumOf(kind);
                }
            }
            return sum;
        }

        int lowestPaid() {
            int lowest = NONE;
            long least = 0;
            for (int month = 0; month < MONTHS; month++) {
                if (slips[month] != null && (lowest == NONE || slips[month].paid() < least)) {
                    lowest = month;
                    least = slips[month].paid();
                }
            }
            return lowest;
        }
    }

    /** The garnishments of one employee, in their order; rests are in millionths. */
    private static final class Garnishments {
        static final int FIXED = 0;
        static final int SHARE = 1;

        final int[] kinds = new int[GARNISHMENTS_MOST];
        final int[] sizes = new int[GARNISHMENTS_MOST];
        final int[] debts = new int[GARNISHMENTS_MOST];
        final long[] rests = new long[GARNISHMENTS_MOST];
        int count = 0;

        void copyFrom(Garnishments other) {
            System.arraycopy(other.kinds, 0, kinds, 0, GARNISHMENTS_MOST);
            System.arraycopy(other.sizes, 0, sizes, 0, GARNISHMENTS_MOST);
            System.arraycopy(other.debts, 0, debts, 0, GARNISHMENTS_MOST);
            System.arraycopy(other.rests, 0, rests, 0, GARNISHMENTS_MOST);
            count = other.count;
        }

        boolean has(int position) {
            return position >= 0 && position < count;
        }

        int add(int kind, int size, int debt) {
            if (count >= GARNISHMENTS_MOST) {
                return FULL;
            }
            kinds[count] = kind;
            sizes[count] = size;
            debts[count] = debt;
            rests[count] = debt * UNIT;
            count++;
            return count;
        }

        int remove(int position) {
            shift(position, count - 1);
            count--;
            return count;
        }

        void shift(int position, int to) {
            for (int at = position; at < to; at++) {
                swap(at, at + 1);
            }
            for (int at = position; at > to; at--) {
                swap(at, at - 1);
            }
        }

        void removePaid() {
            int unpaid = 0;
            for (int position = 0; position < count && position < GARNISHMENTS_MOST; position++) {
                if (rests[position] > 0) {
                    swap(unpaid, position);
                    unpaid++;
                }
            }
            count = unpaid;
        }

        private void swap(int one, int other) {
            if (!has(one) || !has(other)) {
                return;
            }
            int kind = kinds[one];
            int size = sizes[one];
            int debt = debts[one];
            long rest = rests[one];
            kinds[one] = kinds[other];
            sizes[one] = sizes[other];
            debts[one] = debts[other];
            rests[one] = rests[other];
            kinds[other] = kind;
            sizes[other] = size;
            debts[other] = debt;
            rests[other] = rest;
        }

        long wanted(int position, long aboveFloor) {
            long wish = kinds[position] == FIXED
                ? sizes[position] * UNIT
                : sizes[position] * aboveFloor / THOUSAND;
            return Math.min(wish, rests[position]);
        }
    }

    /** The lines of one slip. */
    private static final class Slip {
        static final int PARTS = 3;
        /** Four for each of 12 months, owed, three garnishments, carry and pay. */
        static final int LINES_MOST = 54;

        /** The kinds, indexes and reasons, at part * LINES_MOST + line. */
        final int[] parts = new int[PARTS * LINES_MOST];
        final long[] amounts = new long[LINES_MOST];
        int count = 0;
        /** Of all lines so far. */
        long sum = 0;

        void clear() {
            count = 0;
            sum = 0;
        }

        void add(int kind, int index, int reason, long amount) {
            if (count >= LINES_MOST) {
                return;
            }
            parts[count] = kind;
            parts[LINES_MOST + count] = index;
            parts[2 * LINES_MOST + count] = reason;
            amounts[count] = amount;
            count++;
            sum += amount;
        }

        boolean has(int line) {
            return within(line, 0, count - 1);
        }

        /** The last line is the payout. */
        long paid() {
            return has(count - 1) ? amounts[count - 1] : 0;
        }

        long sumOf(int kind) {
            long found = 0;
            for (int i = 0; i < count && i < LINES_MOST; i++) {
                if (parts[i] == kind) {
                    found += amounts[i];
                }
            }
            return found;
        }

        int correctedMonths(int ownMonth) {
            int months = 0;
            for (int i = 0; i < count && i < LINES_MOST; i++) {
                int index = parts[LINES_MOST + i];
                if (parts[i] <= TAX && index != ownMonth) {
                    months |= 1 << index;
                }
            }
            return months;
        }
    }

    /** Closes a month for one employee. */
    private static final class Closing {
        /** A row for what Rules.fillDues tells, kept to be used again. */
        final long[] dues = new long[DUE_KINDS * MONTHS];

        void close(Worker worker, int month, Rules rules, boolean ruleSet, Slip slip) {
            if (!isMonth(month)) {
                return;
            }
            rules.fillDues(worker, dues);
            addOwnLines(month, slip);
            for (int earlier = 0; earlier < month; earlier++) {
                addCorrections(worker, earlier, ruleSet, slip);
                worker.settle(earlier, dues);
            }
            worker.settle(month, dues);
            if (worker.owed != 0) {
                slip.add(OWED, 0, 0, -worker.owed);
            }
            long balance = slip.sum;
            long floor = worker.floor * UNIT;
            long guarantee = Math.min(floor, dues[NET * MONTHS + month]);
            worker.owed = Math.max(guarantee - balance, 0);
            long aboveFloor = Math.max(Math.max(balance, guarantee) - floor, 0);
            addGarnishes(worker.garnishments, aboveFloor, slip);
            if (worker.owed != 0) {
                slip.add(CARRY, 0, 0, worker.owed);
            }
            slip.add(PAY, 0, 0, slip.sum);
        }

        private void addOwnLines(int month, Slip slip) {
            for (int kind = GROSS; kind <= TAX; kind++) {
                slip.add(kind, month, 0, signed(kind, dues[kind * MONTHS + month]));
            }
        }

        private void addCorrections(Worker worker, int month, boolean ruleSet, Slip slip) {
            int reason = worker.reasonFor(month, ruleSet);
            for (int kind = GROSS; kind <= TAX; kind++) {
                int at = kind * MONTHS + month;
                long difference = dues[at] - worker.settledAmounts[at];
                if (difference != 0) {
                    slip.add(kind, month, reason, signed(kind, difference));
                }
            }
        }

        private void addGarnishes(Garnishments garnishments, long aboveFloor, Slip slip) {
            long left = aboveFloor;
            for (int position = 0; position < garnishments.count && position < GARNISHMENTS_MOST; position++) {
                if (garnishments.rests[position] > 0) {
                    long wanted = garnishments.wanted(position, aboveFloor);
                    long taken = Math.min(wanted, left);
                    left -= taken;
                    garnishments.rests[position] -= taken;
                    int reason = garnishReason(garnishments.rests[position], wanted, taken);
                    slip.add(GARNISH, position, reason, -taken);
                }
            }
        }

        private static int garnishReason(long rest, long wanted, long taken) {
            if (rest == 0) {
                return 4;
            }
            if (taken == wanted) {
                return 1;
            }
            return taken > 0 ? 2 : 3;
        }

        private static long signed(int kind, long amount) {
            return kind == GROSS ? amount : -amount;
        }
    }

    /** Tries what closings would bring, on a copy of the employee. */
    private static final class Trial {
        private final Closing closing = new Closing();
        private final Worker worker = new Worker();
        private final Slip slip = new Slip();

        long nextPayout(Books books, int employee, int moreBonus) {
            int month = books.closedMonths;
            if (!isMonth(month)) {
                return NONE;
            }
            worker.copyFrom(books.workers[employee]);
            worker.entries[BONUS * MONTHS + month] += moreBonus;
            return payoutOf(month, books);
        }

        long payoutsToCome(Books books, int employee) {
            worker.copyFrom(books.workers[employee]);
            long sum = 0;
            for (int month = books.closedMonths; month < MONTHS; month++) {
                sum += payoutOf(month, books);
            }
            return sum;
        }

        private long payoutOf(int month, Books books) {
            slip.clear();
            closing.close(worker, month, books.rules, books.ruleSetSinceClosing, slip);
            return slip.paid();
        }

        /** The net pay never falls when the salary rises, so the least one is found by halving. */
        int leastSalaryFor(Books books, int employee, long net) {
            int month = books.closedMonths;
            if (!isMonth(month)) {
                return NONE;
            }
            Worker asked = books.workers[employee];
            int days = asked.entries[DAYS * MONTHS + month];
            int bonus = asked.entries[BONUS * MONTHS + month];
            long earlier = asked.grossBefore(month);
            long enough = books.rules.amountOn(NET, earlier) + net;
            int tooLow = 0;
            for (int step = 8192; step > 0; step /= 2) {
                int highest = tooLow + step - 1;
                long gross = earlier + grossPay(highest, days, bonus);
                if (highest <= MONEY_MOST && books.rules.amountOn(NET, gross) < enough) {
                    tooLow += step;
                }
            }
            return tooLow <= MONEY_MOST ? tooLow : NONE;
        }
    }

    /** The states before the latest changes, the oldest given up for the newest. */
    private static final class History {
        /** One more than can be undone: a call that fails must not cost the oldest state. */
        private static final int PLACES = CHANGES_MOST + 1;

        private final Books[] places = new Books[PLACES];
        private int next = 0;
        private int count = 0;

        History() {
            for (int i = 0; i < PLACES; i++) {
                places[i] = new Books();
            }
        }

        /** Must come before each change, which commit then makes one that can be undone. */
        void begin(Books now) {
            places[next].copyFrom(now);
        }

        void commit() {
            next = (next + 1) % PLACES;
            count = Math.min(count + 1, CHANGES_MOST);
        }

        /** Takes back what was done since begin. */
        void takeBack(Books now) {
            now.copyFrom(places[next]);
        }

        int stepBack(Books now) {
            if (count == 0) {
                return NONE;
            }
            next = (next + PLACES - 1) % PLACES;
            count--;
            now.copyFrom(places[next]);
            return count;
        }
    }

    /** The text buffer, and the commands that were last read from it. */
    private static final class CommandText {
        static final int NO_ERROR = -1;

        static final int SALARY_WORD = 0;
        static final int DAYS_WORD = 1;
        static final int BONUS_WORD = 2;
        static final int FLOOR_WORD = 3;
        static final int RATE_WORD = 4;
        static final int CAP_WORD = 5;
        static final int BRACKET_WORD = 6;
        static final int FIXED_WORD = 7;
        static final int SHARE_WORD = 8;
        static final int DROP_WORD = 9;
        static final int MOVE_WORD = 10;
        static final int CLOSE_WORD = 11;
        private static final int WORDS = 12;

        private static final int[] NUMBERS_AFTER = {3, 3, 3, 2, 2, 2, 2, 3, 3, 2, 3, 0};
        private static final int NUMBERS_MOST = 3;
        private static final int DIGITS_MOST = 5;
        private static final int SIGNS_MOST = 60;
        /** The shortest command takes 5 characters. */
        private static final int COMMANDS_MOST = 12;

        private final char[] signs = new char[SIGNS_MOST];
        private int length = 0;
        int count = 0;
        private final int[] words = new int[COMMANDS_MOST];
        private final int[] starts = new int[COMMANDS_MOST];
        private final int[] numbers = new int[COMMANDS_MOST * NUMBERS_MOST];

        int append(int sign) {
            if (!within(sign, 32, 126)) {
                return BAD;
            }
            if (length >= SIGNS_MOST) {
                return FULL;
            }
            signs[length] = (char) sign;
            length++;
            return length;
        }

        /** Empties the buffer; the commands that were read stay. */
        void clear() {
            length = 0;
        }

        int wordOf(int command) {
            return within(command, 0, count - 1) ? words[command] : NONE;
        }

        int startOf(int command) {
            return within(command, 0, count - 1) ? starts[command] : NONE;
        }

        int numberOf(int command, int i) {
            boolean known = within(command, 0, count - 1) && within(i, 0, NUMBERS_MOST - 1);
            return known ? numbers[command * NUMBERS_MOST + i] : NONE;
        }

        /** Reads all commands of the text; answers the error position, or NO_ERROR. */
        int read() {
            count = 0;
            int at = 0;
            while (count < COMMANDS_MOST) {
                int end = readCommand(at);
                if (isFailure(end)) {
                    return failurePosition(end);
                }
                count++;
                if (end >= length) {
                    return NO_ERROR;
                }
                at = end + 1;
            }
            return at;
        }

        /** Answers where the command ends, or a failure, as readNumber does. */
        private int readCommand(int start) {
            int at = wordEnd(start);
            int word = wordBetween(start, at);
            if (word == NONE) {
                return failureAt(start);
            }
            words[count] = word;
            starts[count] = start;
            for (int i = 0; i < NUMBERS_AFTER[word] && i < NUMBERS_MOST; i++) {
                at = readNumber(at, i);
                if (isFailure(at)) {
                    return at;
                }
            }
            return at >= length || signs[at] == ';' ? at : failureAt(at);
        }

        private int readNumber(int blank, int i) {
            if (!isSign(blank, ' ', ' ')) {
                return failureAt(blank);
            }
            int first = blank + 1;
            int at = first;
            int value = 0;
            while (at < first + DIGITS_MOST && isSign(at, '0', '9')) {
                value = value * 10 + signs[at] - '0';
                at++;
            }
            if (at == first) {
                return failureAt(first);
            }
            numbers[count * NUMBERS_MOST + i] = value;
            return at;
        }

        private boolean isSign(int at, char least, char most) {
            return within(at, 0, length - 1) && signs[at] >= least && signs[at] <= most;
        }

        private int wordEnd(int start) {
            int end = start;
            while (end < length && isSign(end, 'a', 'z')) {
                end++;
            }
            return end;
        }

        private int wordBetween(int start, int end) {
            for (int word = 0; word < WORDS; word++) {
                if (spells(wordText(word), start, end)) {
                    return word;
                }
            }
            return NONE;
        }

        private boolean spells(String word, int start, int end) {
            if (word.length() != end - start) {
                return false;
            }
            for (int i = 0; i < word.length(); i++) {
                if (word.charAt(i) != signs[start + i]) {
                    return false;
                }
            }
            return true;
        }

        private static String wordText(int word) {
            switch (word) {
                case SALARY_WORD:
                    return "salary";
                case DAYS_WORD:
                    return "days";
                case BONUS_WORD:
                    return "bonus";
                case FLOOR_WORD:
                    return "floor";
                case RATE_WORD:
                    return "rate";
                case CAP_WORD:
                    return "cap";
                case BRACKET_WORD:
                    return "bracket";
                case FIXED_WORD:
                    return "fixed";
                case SHARE_WORD:
                    return "share";
                case DROP_WORD:
                    return "drop";
                case MOVE_WORD:
                    return "move";
                default:
                    return "close";
            }
        }

        // A failure is told below zero, so that it differs from every position.
        private static int failureAt(int position) {
            return -1 - position;
        }

        private static boolean isFailure(int end) {
            return end < 0;
        }

        private static int failurePosition(int failure) {
            return -1 - failure;
        }
    }

    /** Lines as text. */
    private static final class SlipText {
        private static final int DIGITS_MOST = 19;

        private final StringBuilder text = new StringBuilder();
        private final char[] digits = new char[DIGITS_MOST];

        void clear() {
            text.setLength(0);
        }

        void writeSlip(Slip slip) {
            clear();
            for (int i = 0; i < slip.count && i < Slip.LINES_MOST; i++) {
                int kind = slip.parts[i];
                int index = slip.parts[Slip.LINES_MOST + i];
                int reason = slip.parts[2 * Slip.LINES_MOST + i];
                writeLine(kind, index, reason, slip.amounts[i]);
            }
        }

        void writeLine(int kind, int index, int reason, long amount) {
            text.append(kindName(kind));
            text.append(' ');
            writeNumber(index);
            text.append(' ');
            writeNumber(reason);
            text.append(' ');
            writeNumber(amount);
            text.append(';');
        }

        /** The character at a position, or the length at -1. */
        int signAt(int i) {
            if (i == -1) {
                return text.length();
            }
            return within(i, 0, text.length() - 1) ? text.charAt(i) : NONE;
        }

        /** Digit by digit, so that no text is made for a number. */
        private void writeNumber(long number) {
            if (number < 0) {
                text.append('-');
            }
            long left = Math.abs(number);
            int first = DIGITS_MOST;
            do {
                first--;
                digits[first] = (char) ('0' + left % 10);
                left /= 10;
            } while (left > 0 && first > 0);
            for (int i = first; i < DIGITS_MOST; i++) {
                text.append(digits[i]);
            }
        }

        private static String kindName(int kind) {
            switch (kind) {
                case GROSS:
                    return "gross";
                case SOCIAL:
                    return "social";
                case HEALTH:
                    return "health";
                case TAX:
                    return "tax";
                case OWED:
                    return "owed";
                case GARNISH:
                    return "garnish";
                case CARRY:
                    return "carry";
                default:
                    return "pay";
            }
        }
    }
}
