/** Promises 14, 15, 22 to 24 and the lines of a closing, sentence by sentence at the edges. */
public final class ClosingEdgesTest {
    private static final int NONE = PayrollRun.NONE;
    private static final long UNIT = 1000000L;
    private static final Check check = new Check();

    public static void main(String[] args) {
        twelveMonthsAndNoMore();
        noYearBeforeAllAreClosed();
        yearsAreCounted();
        whatStaysInAnotherYear();
        amountsOfNothing();
        onlyLinesThatAreNotZero();
        eachKindAlone();
        salaryByOne();
        daysByOne();
        bonusByOne();
        reasonsWithoutAGrossLine();
        theLatestSettlement();
        aRuleSetSince();
        clearingNothingSetsARule();
        rulesThatWereNotSet();
        fromTheFirstToTheLastMonth();
        theBalanceAtTheGuarantee();
        theFloorAtTheNetPay();
        owedOnlyIfNotZero();
        carriedIntoAnotherYear();
        settledOrNotClosed();
        pendingOfNoneAndAll();
        check.end();
    }

    private static PayrollRun paid(int salary) {
        PayrollRun run = new PayrollRun();
        run.salary(0, 0, salary);
        return run;
    }

    /** The lines of a slip behind its own four ones. */
    private static String linesBehind(PayrollRun run, int month) {
        String text = Check.slip(run, 0, month);
        int from = text.indexOf(';', text.indexOf("tax " + month + " 0 ")) + 1;
        return text.substring(from);
    }

    private static void twelveMonthsAndNoMore() {
        PayrollRun run = new PayrollRun();
        for (int m = 0; m < 12; m++) {
            check.same("25: not closed yet", run.lineCount(2, m), NONE);
            check.same("14: the first that is not closed", run.closeMonth(), m);
            check.same("25: closed now", run.lineCount(2, m), 5);
        }
        check.same("14: none is left", run.closeMonth(), NONE);
        check.same("16: twelve", run.closed(), 12);
        check.same("44: the last closing", run.undo(), 5);
        check.same("14: the last month again", run.closeMonth(), 11);
        check.same("14: none is left again", run.closeMonth(), NONE);
    }

    private static void noYearBeforeAllAreClosed() {
        PayrollRun run = paid(5);
        run.bonus(0, 3, 7);
        for (int m = 0; m < 12; m++) {
            check.same("15: " + m + " are closed", run.newYear(), NONE);
            run.closeMonth();
        }
        check.same("15: nothing was changed", run.data(0, 3, 2), 7);
        check.same("15: all are closed", run.newYear(), 1);
        check.same("15: none is closed then", run.newYear(), NONE);
        check.same("16: none is closed then", run.closed(), 0);
        check.same("14: the first month again", run.closeMonth(), 0);
    }

    private static void yearsAreCounted() {
        PayrollRun run = new PayrollRun();
        Check.closeAll(run);
        run.save();
        for (int year = 1; year <= 5; year++) {
            check.same("15: years begun", run.newYear(), year);
            run.undo();
            check.same("15: one that was taken back is not counted", run.newYear(), year);
            Check.closeAll(run);
        }
        run.restore();
        check.same("43: the years before the snapshot", run.newYear(), 1);
        run.undo();
        run.undo();
        check.same("44: five years were begun", run.newYear(), 6);
    }

    private static void whatStaysInAnotherYear() {
        PayrollRun run = paid(9999);
        run.salary(0, 11, 0);
        run.salary(1, 11, 9999);
        run.days(2, 0, 0);
        run.days(2, 11, 0);
        run.bonus(2, 0, 9999);
        run.bonus(2, 11, 9999);
        run.setFloor(1, 9999);
        run.setRate(1, 499);
        run.setCap(0, 0);
        for (int i = 0; i < 5; i++) {
            run.bracket(i, 999);
        }
        run.share(1, 1000, 99999);
        Check.closeAll(run);
        run.newYear();
        for (int m = 0; m < 12; m++) {
            check.same("15: a last salary of 0", run.data(0, m, 0), 0);
            check.same("15: the last salary", run.data(1, m, 0), 9999);
            check.same("15: 30 days", run.data(2, m, 1), 30);
            check.same("15: no bonus", run.data(2, m, 2), 0);
            check.same("15: no slip", run.lineCount(0, m), NONE);
            check.same("15: no account", run.account(m, 0), NONE);
        }
        check.same("15: the floor", run.setting(0, 1), 9999);
        check.same("15: the rate", run.setting(1, 1), 499);
        check.same("15: the cap", run.setting(2, 0), 0);
        check.same("15: five brackets", run.setting(5, 0), 5);
        check.same("15: the debt", run.rest(1, 0), 99999 * UNIT);
        check.same("15: one garnishment", run.garnishment(1, -1, 0), 1);
        check.same("15: nothing is corrected in its first slip", run.closeMonth() + run.corrections(0, 0), 0);
    }

    private static void amountsOfNothing() {
        PayrollRun run = new PayrollRun();
        run.setRate(0, 499);
        run.bracket(0, 999);
        run.closeMonth();
        check.same("14: own lines are there even with 0", Check.slip(run, 0, 0),
            "gross 0 0 0;social 0 0 0;health 0 0 0;tax 0 0 0;pay 0 0 0;");
        run.closeMonth();
        check.same("14: no line for what is the same", Check.slip(run, 0, 1),
            "gross 1 0 0;social 1 0 0;health 1 0 0;tax 1 0 0;pay 0 0 0;");
    }

    private static void onlyLinesThatAreNotZero() {
        PayrollRun run = paid(30);
        run.closeMonth();
        run.salary(0, 0, 31);
        run.days(0, 0, 29);
        // 31 times 29 is 899, a thirtieth of which is 29 again where it is rounded down.
        run.bonus(0, 0, 1);
        run.closeMonth();
        check.same("14: all data differ, the sum does not", linesBehind(run, 1), "pay 0 0 31000000;");
        check.same("39: no correction", run.corrections(0, 1), 0);
        run.bonus(0, 0, 0);
        run.closeMonth();
        check.same("14: a unit less", linesBehind(run, 2), "gross 0 4 -1000000;pay 0 0 30000000;");
    }

    private static void eachKindAlone() {
        PayrollRun run = paid(1000);
        run.bracket(500, 100);
        run.closeMonth();
        run.setRate(0, 1);
        run.setCap(0, 1);
        run.setRate(1, 1);
        run.setCap(1, 0);
        run.closeMonth();
        check.same("14: social and tax, neither gross nor health", linesBehind(run, 1),
            "social 0 5 -1000;tax 0 5 100;pay 0 0 899999100;");
        run.clearBrackets();
        run.bracket(501, 100);
        run.closeMonth();
        check.same("14: the tax alone", linesBehind(run, 2), "tax 0 5 100000;pay 0 0 900100000;");
        run.clearBrackets();
        run.bracket(501, 0);
        run.setCap(1, 1);
        run.closeMonth();
        check.same("14: health, then the tax of every month", linesBehind(run, 3), "health 0 5 -1000;tax 0 5 49899900;"
            + "tax 1 5 100000000;tax 2 5 100000000;pay 0 0 1249898900;");
    }

    private static void salaryByOne() {
        int[][] cases = {{999, 2}, {1001, 1}, {0, 2}, {9999, 1}};
        for (int[] c : cases) {
            PayrollRun run = paid(1000);
            run.closeMonth();
            run.salary(0, 0, c[0]);
            run.salary(0, 1, 1000);
            run.days(0, 0, 30);
            run.closeMonth();
            check.same("14: salary " + c[0], run.line(0, 1, 4, 2), c[1]);
            check.same("14: its index", run.line(0, 1, 4, 1), 0);
            check.same("14: what is due for it now", run.amount(0, 1, 4), (c[0] - 1000) * UNIT);
        }
        PayrollRun run = paid(1000);
        run.closeMonth();
        run.salary(0, 0, 1000);
        run.closeMonth();
        check.same("14: the same salary", run.lineCount(0, 1), 5);
    }

    private static void daysByOne() {
        int[] cases = {0, 1, 14, 16, 29, 30};
        for (int days : cases) {
            PayrollRun run = paid(3000);
            run.days(0, 0, 15);
            run.closeMonth();
            run.days(0, 0, days);
            run.bonus(0, 0, 9);
            run.setRate(0, 0);
            run.closeMonth();
            check.same("14: days " + days, run.line(0, 1, 4, 2), 3);
            check.same("14: the amount", run.amount(0, 1, 4), (100 * (days - 15) + 9) * UNIT);
        }
    }

    private static void bonusByOne() {
        int[] cases = {0, 9, 11, 9999};
        for (int bonus : cases) {
            PayrollRun run = paid(3000);
            run.bonus(0, 0, 10);
            run.closeMonth();
            run.bonus(0, 0, bonus);
            run.setRate(0, 0);
            run.closeMonth();
            check.same("14: bonus " + bonus, run.line(0, 1, 4, 2), 4);
            check.same("14: the amount", run.amount(0, 1, 4), (bonus - 10) * UNIT);
        }
    }

    /** The salary is greater, but not the gross pay: the line of another kind still tells it. */
    private static void reasonsWithoutAGrossLine() {
        int[][] cases = {{31, 1, 0, 1}, {29, 1, 1, 2}, {30, 0, 1, 3}, {30, 1, 0, 5}};
        for (int[] c : cases) {
            PayrollRun run = paid(30);
            run.days(0, 0, 1);
            run.closeMonth();
            run.salary(0, 0, c[0]);
            run.days(0, 0, c[1]);
            run.bonus(0, 0, c[2]);
            run.setRate(0, 100);
            run.closeMonth();
            check.same("14: social alone", run.line(0, 1, 4, 0), 1);
            check.same("14: the reason for " + c[0] + " " + c[1] + " " + c[2], run.line(0, 1, 4, 2), c[3]);
        }
    }

    /** Each slip settles all months up to its own, those without a line too. */
    private static void theLatestSettlement() {
        PayrollRun run = paid(30);
        run.days(0, 0, 1);
        run.closeMonth();
        run.salary(0, 0, 31);
        run.closeMonth();
        check.same("14: no line for it", run.corrections(0, 1), 0);
        run.setRate(0, 100);
        run.closeMonth();
        check.same("14: its salary is that of the latest settlement", run.line(0, 2, 4, 2), 5);
        run.salary(0, 0, 30);
        run.setRate(0, 200);
        run.closeMonth();
        check.same("14: and less than that now", run.line(0, 3, 4, 2), 2);
    }

    private static void aRuleSetSince() {
        for (int which = 0; which < 5; which++) {
            PayrollRun run = tiered();
            check.same("a rule is set, way " + which, setSomeRule(run, which) >= 0 ? 1 : 0, 1);
            run.bonus(0, 0, 600);
            run.closeMonth();
            check.same("14: reason of month 0, way " + which, reasonOf(run, 2, 0), 4);
            check.same("14: reason of month 1, way " + which, reasonOf(run, 2, 1), 5);
            run.bonus(0, 0, 400);
            run.closeMonth();
            check.same("14: not set since, way " + which, reasonOf(run, 3, 1), 6);
        }
    }

    /** Month 1 lies across the cap of social, and there is no bracket that could be removed. */
    private static void clearingNothingSetsARule() {
        for (int which = 0; which < 3; which++) {
            PayrollRun run = paid(1000);
            run.setRate(0, 100);
            run.setCap(0, 1500);
            run.closeMonth();
            run.closeMonth();
            if (which > 0) {
                check.same("9: none is removed", run.clearBrackets(), 0);
            }
            if (which > 1) {
                run.undo();
            }
            run.bonus(0, 0, 300);
            run.closeMonth();
            check.same("14: only where it was called, and not undone", reasonOf(run, 2, 1), which == 1 ? 5 : 6);
        }
    }

    /** None of them changes what is due. */
    private static int setSomeRule(PayrollRun run, int which) {
        switch (which) {
            case 0: return run.setRate(1, 0);
            case 1: return run.setCap(0, 99999);
            case 2: return run.bracket(99999, 0);
            case 3: return Check.execute(run, "cap 1 99999");
            default: run.clearBrackets(); return Check.execute(run, "bracket 1500 100");
        }
    }

    private static void rulesThatWereNotSet() {
        for (int which = 0; which < 8; which++) {
            PayrollRun run = tiered();
            int before = run.setting(5, 0);
            switch (which) {
                case 0: run.setRate(0, 500); break;
                case 1: run.setCap(2, 5); break;
                case 2: run.bracket(1500, 5); break;
                case 3: run.setRate(0, 5); run.undo(); break;
                case 4: run.clearBrackets(); run.undo(); break;
                case 5: Check.execute(run, "rate 0 5;close"); run.undo(); break;
                case 6: Check.execute(run, "rate 0 5;cap 2 5"); break;
                default: run.save(); run.bracket(2000, 5); run.restore(); break;
            }
            check.same("the rules are the same", run.setting(5, 0), before);
            run.bonus(0, 0, 600);
            run.closeMonth();
            check.same("14: no rule was set, way " + which, reasonOf(run, 2, 1), 6);
        }
        PayrollRun run = tiered();
        run.setRate(0, 0);
        run.closeMonth();
        run.undo();
        run.bonus(0, 0, 600);
        run.closeMonth();
        check.same("14: set before a closing that was undone", reasonOf(run, 2, 1), 5);
    }

    /** Month 1 lies across the threshold, so what is due for it follows month 0. */
    private static PayrollRun tiered() {
        PayrollRun run = paid(1000);
        run.bracket(1500, 100);
        run.closeMonth();
        run.closeMonth();
        return run;
    }

    private static int reasonOf(PayrollRun run, int slip, int month) {
        for (int i = 4; i < run.lineCount(0, slip); i++) {
            if (run.line(0, slip, i, 1) == month && run.line(0, slip, i, 0) <= 3) {
                return run.line(0, slip, i, 2);
            }
        }
        return 0;
    }

    private static void fromTheFirstToTheLastMonth() {
        PayrollRun run = paid(100);
        for (int m = 0; m < 11; m++) {
            run.closeMonth();
        }
        run.setRate(0, 10);
        run.closeMonth();
        StringBuilder want = new StringBuilder();
        for (int m = 0; m < 11; m++) {
            want.append("social ").append(m).append(" 5 -1000000;");
        }
        check.same("14: ascending", linesBehind(run, 11), want + "pay 0 0 88000000;");
        check.same("39: all but its own", run.corrections(0, 11), 2047);
        run.bonus(0, 11, 5);
        check.same("14: after the last closing nothing is corrected", run.closeMonth(), NONE);
        check.same("23: it stays pending", run.pending(0), 4950000L);
        run.newYear();
        check.same("23: and is gone in another year", run.pending(0), 0);
    }

    /** 1000 net, less a correction: the balance meets a guarantee of 400. */
    private static void theBalanceAtTheGuarantee() {
        int[][] cases = {{599, 0}, {600, 0}, {601, 1}, {1000, 400}};
        for (int[] c : cases) {
            PayrollRun run = paid(1000);
            run.bonus(0, 0, c[0]);
            run.setFloor(0, 400);
            run.closeMonth();
            run.bonus(0, 0, 0);
            run.closeMonth();
            check.same("14: owed after " + c[0] + " less", run.owed(0), c[1] * UNIT);
            check.same("14: payout after " + c[0] + " less", run.payout(0, 1), Math.max(400, 1000 - c[0]) * UNIT);
            check.same("14: a carry line only if it is not 0", run.lineCount(0, 1), c[1] == 0 ? 6 : 7);
        }
    }

    /** 900 net: the guarantee is the lesser one of this and the floor. */
    private static void theFloorAtTheNetPay() {
        int[][] cases = {{0, 0}, {1, 1}, {899, 899}, {900, 900}, {901, 900}, {9999, 900}};
        for (int[] c : cases) {
            PayrollRun run = paid(1000);
            run.bonus(0, 0, 2000);
            run.setRate(0, 100);
            run.setFloor(0, c[0]);
            run.closeMonth();
            run.bonus(0, 0, 0);
            run.closeMonth();
            check.same("14: payout with floor " + c[0], run.payout(0, 1), c[1] * UNIT);
            check.same("14: owed with floor " + c[0], run.owed(0), (900 + c[1]) * UNIT);
        }
        PayrollRun run = paid(1000);
        run.setFloor(0, 500);
        run.closeMonth();
        run.salary(0, 0, 0);
        run.closeMonth();
        check.same("14: no net pay, no guarantee", run.payout(0, 1), 0);
        check.same("14: all is owed", run.owed(0), 1000 * UNIT);
    }

    private static void owedOnlyIfNotZero() {
        PayrollRun run = paid(100);
        run.closeMonth();
        run.salary(0, 0, 50);
        run.days(0, 1, 29);
        run.bonus(0, 1, 1);
        run.closeMonth();
        // 50 times 29 is 1450, a thirtieth of which is 48; 48 + 1 - 50 is one less than nothing.
        check.same("14: one is owed", linesBehind(run, 1), "gross 0 2 -50000000;carry 0 0 1000000;pay 0 0 0;");
        run.days(0, 2, 0);
        run.closeMonth();
        check.same("14: owed and carried", linesBehind(run, 2), "owed 0 0 -1000000;carry 0 0 1000000;pay 0 0 0;");
        run.days(0, 3, 0);
        run.bonus(0, 3, 1);
        run.closeMonth();
        check.same("14: owed, and nothing is carried", linesBehind(run, 3), "owed 0 0 -1000000;pay 0 0 0;");
        run.closeMonth();
        check.same("14: neither", linesBehind(run, 4), "pay 0 0 50000000;");
        check.same("24: nothing is owed", run.owed(0), 0);
    }

    private static void carriedIntoAnotherYear() {
        PayrollRun run = paid(100);
        for (int m = 0; m < 11; m++) {
            run.closeMonth();
        }
        run.salary(0, 0, 0);
        run.closeMonth();
        check.same("24: eleven months are owed", run.owed(0), 1100 * UNIT);
        run.newYear();
        check.same("15: they stay owed", run.owed(0), 1100 * UNIT);
        run.closeMonth();
        check.same("14: and are carried on", linesBehind(run, 0), "owed 0 0 -1100000000;carry 0 0 1100000000;"
            + "pay 0 0 0;");
        check.same("34: nothing in sum", run.total(0, 8), 0);
        run.bonus(0, 1, 1101);
        run.closeMonth();
        check.same("34: less than nothing", run.total(0, 8), -1100 * UNIT);
        check.same("29: one is left", run.payout(0, 1), UNIT);
        check.same("37: with a minus sign", Check.statement(run, 0), "gross 2 0 1101000000;social 2 0 0;health 2 0 0;"
            + "tax 2 0 0;garnish 2 0 0;carry 2 0 -1100000000;pay 2 0 1000000;");
    }

    private static void settledOrNotClosed() {
        PayrollRun run = paid(7);
        for (int m = 0; m < 12; m++) {
            check.same("22: the first that is not closed", run.settled(0, m, 0), NONE);
            run.closeMonth();
            check.same("22: the last that is closed", run.settled(0, m, 0), 7 * UNIT);
            check.same("22: net", run.settled(0, m, 4), 7 * UNIT);
        }
        run.undo();
        check.same("22: not closed again", run.settled(0, 11, 0), NONE);
        check.same("22: still closed", run.settled(0, 10, 0), 7 * UNIT);
    }

    private static void pendingOfNoneAndAll() {
        PayrollRun run = paid(100);
        run.setRate(1, 100);
        check.same("23: no closed month", run.pending(0), 0);
        Check.closeAll(run);
        check.same("23: nothing to settle", run.pending(0), 0);
        run.setRate(1, 0);
        check.same("23: twelve months", run.pending(0), 120 * UNIT);
        run.setRate(1, 101);
        check.same("23: less than nothing", run.pending(0), -1200000L);
        check.same("23: of another employee", run.pending(2), 0);
    }
}
