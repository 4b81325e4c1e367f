/** Promises 1 to 5, 16, 17 and the gross pay, sentence by sentence at the edges; their ranges are in RangesTest. */
public final class DataEdgesTest {
    private static final int BAD = PayrollRun.BAD;
    private static final int NONE = PayrollRun.NONE;
    private static final Check check = new Check();

    public static void main(String[] args) {
        nothingIsSet();
        noMonthIsClosed();
        nothingIsThere();
        aSalaryOfTheFirstMonthIsThatOfAll();
        aSalaryOfTheLastMonthIsThatOfItAlone();
        thePreviousSalaryIsThatOfTheMonth();
        daysAndBonusesAreOfOneMonth();
        zeroIsSetToo();
        closedMonthsAreSetToo();
        theMonthsThatAreClosed();
        roundedDownToUnits();
        theLeastAndTheGreatestGrossPay();
        theCall512();
        check.end();
    }

    private static void nothingIsSet() {
        PayrollRun run = new PayrollRun();
        for (int e = 0; e < 3; e++) {
            for (int m = 0; m < 12; m++) {
                check.same("initially, a salary is 0", run.data(e, m, 0), 0);
                check.same("initially, the days are 30", run.data(e, m, 1), 30);
                check.same("initially, a bonus is 0", run.data(e, m, 2), 0);
                check.same("initially, nothing is due", run.due(e, m, 0) + run.due(e, m, 4), 0);
            }
            check.same("initially, a floor is 0", run.setting(0, e), 0);
            check.same("initially, there is no garnishment", run.garnishment(e, -1, 0), 0);
            check.same("initially, nothing is owed", run.owed(e), 0);
        }
        for (int c = 0; c < 2; c++) {
            check.same("initially, a rate is 0", run.setting(1, c), 0);
            check.same("initially, a cap is 99999", run.setting(2, c), 99999);
        }
        check.same("initially, there is no bracket", run.setting(5, 0), 0);
        check.same("no first bracket", run.setting(3, 0) + run.setting(4, 0), 2 * BAD);
    }

    private static void noMonthIsClosed() {
        PayrollRun run = new PayrollRun();
        check.same("1: closed months", run.closed(), 0);
        for (int e = 0; e < 3; e++) {
            for (int m = 0; m < 12; m++) {
                check.same("1: settled", run.settled(e, m, 0), NONE);
                check.same("1: lineCount", run.lineCount(e, m), NONE);
                check.same("1: line", run.line(e, m, 0, 0), NONE);
                check.same("1: amount", run.amount(e, m, 0), Long.MIN_VALUE);
                check.same("1: letter", run.letter(e, m, -1), NONE);
                check.same("1: payout", run.payout(e, m), NONE);
                check.same("1: corrections", run.corrections(e, m), NONE);
            }
            check.same("1: lowest", run.lowest(e), NONE);
            check.same("1: pending", run.pending(e), 0);
        }
        for (int m = 0; m < 12; m++) {
            check.same("1: account", run.account(m, 4), NONE);
        }
    }

    private static void nothingIsThere() {
        PayrollRun run = new PayrollRun();
        check.same("1: no change", run.undo(), NONE);
        check.same("1: no snapshot", run.restore(), NONE);
        check.same("1: no character", run.execute(), -100);
        check.same("1: no year to begin", run.newYear(), NONE);
        for (int e = 0; e < 3; e++) {
            check.same("1: preview", run.preview(e), 0);
            check.same("1: one unit more of bonus", run.marginal(e), 1000000L);
            check.same("1: least salary for nothing", run.leastSalary(e, 0), 0);
            check.same("1: projected", run.projected(e), 0);
            check.same("1: total", run.total(e, 7), 0);
            check.same("1: oneRun", run.oneRun(e, 4), 0);
            check.same("1: statement", Check.statement(run, e).length(), 84);
        }
        PayrollRun other = new PayrollRun();
        run.salary(0, 0, 5);
        run.feed('x');
        check.same("1: runs have nothing in common", other.data(0, 0, 0), 0);
        check.same("1: nor the buffer", other.feed('x'), 1);
        check.same("1: nor what can be undone", other.undo(), NONE);
    }

    private static void aSalaryOfTheFirstMonthIsThatOfAll() {
        PayrollRun run = new PayrollRun();
        run.salary(2, 5, 77);
        run.salary(2, 0, 9999);
        for (int m = 0; m < 12; m++) {
            check.same("2: all later ones, month " + m, run.data(2, m, 0), 9999);
            check.same("2: of this employee alone", run.data(1, m, 0), 0);
        }
    }

    private static void aSalaryOfTheLastMonthIsThatOfItAlone() {
        PayrollRun run = new PayrollRun();
        run.salary(0, 0, 10);
        check.same("2: the last month", run.salary(0, 11, 20), 10);
        for (int m = 0; m < 11; m++) {
            check.same("2: month " + m + " is earlier", run.data(0, m, 0), 10);
        }
        check.same("2: month 11", run.data(0, 11, 0), 20);
    }

    private static void thePreviousSalaryIsThatOfTheMonth() {
        PayrollRun run = new PayrollRun();
        check.same("2: before anything", run.salary(1, 6, 600), 0);
        check.same("2: an earlier month still had 0", run.salary(1, 5, 500), 0);
        check.same("2: month 6 has that of month 5 now", run.salary(1, 6, 700), 500);
        check.same("2: month 11 has that of month 6", run.salary(1, 11, 0), 700);
    }

    private static void daysAndBonusesAreOfOneMonth() {
        for (int m = 0; m < 12; m++) {
            PayrollRun run = new PayrollRun();
            check.same("3: days of month " + m, run.days(1, m, 0), 30);
            check.same("4: bonus of month " + m, run.bonus(1, m, 9999), 0);
            for (int other = 0; other < 12; other++) {
                check.same("3: days of " + other, run.data(1, other, 1), other == m ? 0 : 30);
                check.same("4: bonus of " + other, run.data(1, other, 2), other == m ? 9999 : 0);
            }
            check.same("3: previous days", run.days(1, m, 30), 0);
            check.same("4: previous bonus", run.bonus(1, m, 0), 9999);
        }
    }

    private static void zeroIsSetToo() {
        PayrollRun run = new PayrollRun();
        run.salary(0, 0, 9999);
        run.setFloor(0, 9999);
        check.same("2: from the greatest to 0", run.salary(0, 0, 0), 9999);
        check.same("2: it is 0", run.salary(0, 0, 0), 0);
        check.same("5: from the greatest to 0", run.setFloor(0, 0), 9999);
        check.same("5: it is 0", run.setFloor(0, 0), 0);
        check.same("each of them is a change", run.undo(), 5);
    }

    private static void closedMonthsAreSetToo() {
        PayrollRun run = new PayrollRun();
        Check.closeAll(run);
        check.same("2: the first month, all closed", run.salary(0, 0, 9), 0);
        check.same("2: the last month, all closed", run.salary(0, 11, 8), 9);
        check.same("3: all closed", run.days(0, 11, 0), 30);
        check.same("4: all closed", run.bonus(0, 11, 9999), 0);
        check.same("5: all closed", run.setFloor(0, 9999), 0);
    }

    private static void theMonthsThatAreClosed() {
        PayrollRun run = new PayrollRun();
        for (int m = 0; m < 12; m++) {
            check.same("16: closed", run.closed(), m);
            run.closeMonth();
        }
        check.same("16: all", run.closed(), 12);
        run.closeMonth();
        check.same("16: not more than all", run.closed(), 12);
        run.undo();
        check.same("16: one was taken back", run.closed(), 11);
    }

    private static void roundedDownToUnits() {
        int[][] cases = {{1, 0, 0}, {1, 1, 0}, {1, 29, 0}, {1, 30, 1}, {2, 14, 0}, {2, 15, 1}, {2, 29, 1}, {29, 1, 0},
            {30, 1, 1}, {31, 1, 1}, {59, 1, 1}, {60, 1, 2}, {9999, 1, 333}, {9999, 29, 9665}, {9999, 0, 0},
            {9999, 30, 9999}};
        for (int[] c : cases) {
            PayrollRun run = new PayrollRun();
            run.salary(0, 0, c[0]);
            run.days(0, 0, c[1]);
            check.same("21: " + c[0] + " times " + c[1], run.due(0, 0, 0), c[2] * 1000000L);
            run.bonus(0, 0, 7);
            check.same("21: the bonus is not divided", run.due(0, 0, 0), (c[2] + 7) * 1000000L);
        }
    }

    private static void theLeastAndTheGreatestGrossPay() {
        PayrollRun run = new PayrollRun();
        run.bonus(0, 0, 1);
        check.same("21: the least that is not 0", run.due(0, 0, 0), 1000000L);
        run.salary(0, 0, 9999);
        for (int m = 0; m < 12; m++) {
            run.bonus(0, m, 9999);
            check.same("21: the greatest, month " + m, run.due(0, m, 0), 19998000000L);
            check.same("21: all of it is net, month " + m, run.due(0, m, 4), 19998000000L);
        }
        check.same("33: the greatest year", run.projected(0), 239976000000L);
        Check.closeAll(run);
        check.same("34: the greatest year", run.total(0, 7), 239976000000L);
        check.same("35: the greatest year", run.oneRun(0, 0), 239976000000L);
    }

    /** An object is used for at most 512 calls. */
    private static void theCall512() {
        PayrollRun run = new PayrollRun();
        run.salary(0, 0, 100);
        for (int i = 2; i <= 511; i++) {
            if (i % 2 == 0) {
                run.closeMonth();
            } else {
                run.undo();
            }
        }
        check.same("the call 512 is answered", run.payout(0, 0), NONE);
        run = new PayrollRun();
        for (int i = 1; i <= 511; i++) {
            run.bonus(0, 0, i);
        }
        check.same("the call 512 is done", run.undo(), 5);
    }
}
