/** Promises 30 to 33, sentence by sentence at the edges; their ranges are in RangesTest. */
public final class ForecastEdgesTest {
    private static final int BAD = PayrollRun.BAD;
    private static final int NONE = PayrollRun.NONE;
    private static final long UNIT = 1000000L;
    private static final Check check = new Check();

    public static void main(String[] args) {
        fromTheFirstToTheLastClosing();
        allClosed();
        badComesBeforeNone();
        previewOfACorrection();
        oneMoreAtTheGreatestBonus();
        oneMoreAroundATreshold();
        oneMoreAroundTheCap();
        oneMoreAroundTheFloor();
        oneMoreForGarnishments();
        oneMoreWhereSomethingIsOwed();
        theLeastAndTheGreatestSalary();
        noSalaryIsEnough();
        noneIsNeeded();
        roundedDownDays();
        ofThisMonthAlone();
        theSameNetForTwoSalaries();
        projectedFromNoneToAllMonths();
        projectedGarnishments();
        check.end();
    }

    private static PayrollRun paid(int salary) {
        PayrollRun run = new PayrollRun();
        run.salary(0, 0, salary);
        return run;
    }

    private static void fromTheFirstToTheLastClosing() {
        PayrollRun run = paid(1000);
        run.setRate(0, 100);
        run.setCap(0, 11500);
        run.bracket(11000, 100);
        run.share(0, 10, 100);
        for (int m = 0; m < 12; m++) {
            long preview = run.preview(0);
            long marginal = run.marginal(0);
            run.closeMonth();
            check.same("30: month " + m, run.payout(0, m), preview);
            run.undo();
            run.bonus(0, m, 1);
            check.same("31: month " + m, run.preview(0) - preview, marginal);
            run.undo();
            run.closeMonth();
        }
    }

    private static void allClosed() {
        PayrollRun run = paid(1000);
        for (int m = 0; m < 11; m++) {
            run.closeMonth();
        }
        check.same("30: one is left", run.preview(0), 1000 * UNIT);
        check.same("31: one is left", run.marginal(0), UNIT);
        check.same("32: one is left", run.leastSalary(0, 5), 5);
        check.same("33: one is left", run.projected(0), 12000 * UNIT);
        run.closeMonth();
        check.same("30: none", run.preview(0), NONE);
        check.same("31: none", run.marginal(0), NONE);
        check.same("32: none", run.leastSalary(0, 0), NONE);
        check.same("33: none", run.projected(0), 12000 * UNIT);
        run.newYear();
        check.same("30: another year", run.preview(0), 1000 * UNIT);
        check.same("31: another year", run.marginal(0), UNIT);
        check.same("32: another year", run.leastSalary(0, 5), 5);
        check.same("33: another year", run.projected(0), 12000 * UNIT);
    }

    private static void badComesBeforeNone() {
        PayrollRun run = States.FULL.make();
        check.same("30: employee 3", run.preview(3), BAD);
        check.same("31: employee -1", run.marginal(-1), BAD);
        check.same("32: employee 3", run.leastSalary(3, 0), BAD);
        check.same("32: net -1", run.leastSalary(0, -1), BAD);
        check.same("32: net 100000", run.leastSalary(0, 100000), BAD);
        check.same("32: net 99999", run.leastSalary(0, 99999), NONE);
        check.same("33: employee 3", run.projected(3), BAD);
    }

    private static void previewOfACorrection() {
        int[][] cases = {{599, 401}, {600, 400}, {601, 400}, {2000, 400}};
        for (int[] c : cases) {
            PayrollRun run = paid(1000);
            run.bonus(0, 0, c[0]);
            run.setFloor(0, 400);
            run.closeMonth();
            run.bonus(0, 0, 0);
            check.same("30: less " + c[0], run.preview(0), c[1] * UNIT);
        }
        check.same("30: of nothing", new PayrollRun().preview(2), 0);
    }

    private static void oneMoreAtTheGreatestBonus() {
        PayrollRun run = new PayrollRun();
        run.bonus(0, 0, 9999);
        check.same("31: 10000 is tried", run.marginal(0), UNIT);
        run.bracket(9999, 500);
        check.same("31: and taxed", run.marginal(0), UNIT / 2);
        check.same("31: the bonus stays", run.data(0, 0, 2), 9999);
        run.bonus(0, 11, 9999);
        for (int m = 0; m < 11; m++) {
            run.closeMonth();
        }
        check.same("31: in the last month", run.marginal(0), UNIT / 2);
        check.same("44: it is no change", run.undo(), 5);
    }

    private static void oneMoreAroundATreshold() {
        int[][] cases = {{998, 1000}, {999, 1000}, {1000, 750}, {1001, 750}, {1999, 750}, {2000, 1}, {2001, 1}};
        for (int[] c : cases) {
            PayrollRun run = paid(c[0]);
            run.bracket(1000, 250);
            run.bracket(2000, 999);
            check.same("31: salary " + c[0], run.marginal(0), c[1] * 1000L);
        }
    }

    private static void oneMoreAroundTheCap() {
        int[][] cases = {{998, 900}, {999, 900}, {1000, 1000}, {1001, 1000}};
        for (int[] c : cases) {
            PayrollRun run = paid(c[0]);
            run.setRate(1, 100);
            run.setCap(1, 1000);
            check.same("31: salary " + c[0], run.marginal(0), c[1] * 1000L);
        }
    }

    private static void oneMoreAroundTheFloor() {
        int[][] cases = {{498, 1000}, {499, 1000}, {500, 0}, {501, 0}};
        for (int[] c : cases) {
            PayrollRun run = paid(c[0]);
            run.setFloor(0, 500);
            run.share(0, 1000, 99999);
            check.same("31: salary " + c[0], run.marginal(0), c[1] * 1000L);
        }
    }

    private static void oneMoreForGarnishments() {
        int[][] cases = {{99, 0}, {100, 1000}, {101, 1000}};
        for (int[] c : cases) {
            PayrollRun run = paid(c[0]);
            run.fixed(0, 100, 99999);
            check.same("31: 100 are taken of " + c[0], run.marginal(0), c[1] * 1000L);
        }
        PayrollRun run = paid(100);
        run.share(0, 500, 50);
        check.same("31: its debt is 50", run.marginal(0), UNIT);
        run.dropGarnishment(0, 0);
        run.share(0, 500, 51);
        check.same("31: its debt is 51", run.marginal(0), UNIT / 2);
    }

    private static void oneMoreWhereSomethingIsOwed() {
        PayrollRun run = paid(1000);
        run.closeMonth();
        run.days(0, 0, 0);
        run.salary(0, 1, 999);
        check.same("31: the balance is -1", run.marginal(0), 0);
        run.salary(0, 1, 1000);
        check.same("31: the balance is 0", run.marginal(0), UNIT);
    }

    private static void theLeastAndTheGreatestSalary() {
        PayrollRun run = new PayrollRun();
        int[] nets = {0, 1, 2, 4095, 4096, 8191, 8192, 8193, 9998, 9999};
        for (int net : nets) {
            check.same("32: without rules", run.leastSalary(0, net), net);
        }
        check.same("32: one more than the greatest salary", run.leastSalary(0, 10000), NONE);
        run.salary(0, 0, 9999);
        check.same("32: whatever it is now", run.leastSalary(0, 1), 1);
        run.setRate(0, 499);
        check.same("32: 5009 net", run.leastSalary(0, 5009), 9999);
        check.same("32: 5009.499 are less than 5010", run.leastSalary(0, 5010), NONE);
    }

    private static void noSalaryIsEnough() {
        PayrollRun run = new PayrollRun();
        run.bracket(0, 999);
        check.same("32: 9 of 9999", run.leastSalary(0, 9), 9000);
        check.same("32: 10 would take 10000", run.leastSalary(0, 10), NONE);
        check.same("32: the greatest amount", run.leastSalary(0, 99999), NONE);
        run.days(0, 0, 0);
        check.same("32: no days", run.leastSalary(0, 1), NONE);
        run.bonus(0, 0, 9999);
        check.same("32: the greatest bonus", run.leastSalary(0, 9), 0);
        run.days(0, 0, 30);
        check.same("32: both at their greatest", run.leastSalary(0, 19), 9001);
        check.same("32: 19.998 is all", run.leastSalary(0, 20), NONE);
        run.clearBrackets();
        check.same("32: untaxed", run.leastSalary(0, 19998), 9999);
        check.same("32: and one more", run.leastSalary(0, 19999), NONE);
    }

    private static void noneIsNeeded() {
        PayrollRun run = new PayrollRun();
        check.same("32: for nothing", run.leastSalary(0, 0), 0);
        run.bonus(0, 0, 700);
        check.same("32: the bonus is more", run.leastSalary(0, 699), 0);
        check.same("32: the bonus is it", run.leastSalary(0, 700), 0);
        check.same("32: the bonus is less", run.leastSalary(0, 701), 1);
        run.setRate(1, 1);
        check.same("32: 699.3 are less", run.leastSalary(0, 700), 1);
    }

    private static void roundedDownDays() {
        int[][] cases = {{1, 30}, {333, 9990}, {334, NONE}};
        for (int[] c : cases) {
            PayrollRun run = new PayrollRun();
            run.days(0, 0, 1);
            check.same("32: one day for " + c[0], run.leastSalary(0, c[0]), c[1]);
        }
        PayrollRun run = new PayrollRun();
        run.days(0, 0, 29);
        check.same("32: 29 days for 9665", run.leastSalary(0, 9665), 9999);
        check.same("32: 29 days for 9664", run.leastSalary(0, 9664), 9998);
        check.same("32: 29 days for 1", run.leastSalary(0, 1), 2);
    }

    /** What was owed, corrected and garnished does not count for the net pay that is due. */
    private static void ofThisMonthAlone() {
        PayrollRun run = paid(1000);
        run.closeMonth();
        run.days(0, 0, 0);
        run.fixed(0, 9999, 99999);
        check.same("32: corrections do not count", run.leastSalary(0, 300), 300);
        run.closeMonth();
        check.same("24: 0 is owed", run.owed(0), 0);
        run.days(0, 1, 0);
        run.closeMonth();
        check.same("32: in the next month", run.leastSalary(0, 300), 300);
        run.bracket(1000, 500);
        check.same("32: 1000 were earned before", run.leastSalary(0, 300), 600);
        run.salary(0, 2, 999);
        check.same("32: 999 were earned before", run.leastSalary(0, 300), 599);
    }

    private static void theSameNetForTwoSalaries() {
        PayrollRun run = new PayrollRun();
        run.days(0, 0, 15);
        check.same("32: 10 and 11 bring 5", run.leastSalary(0, 5), 10);
        check.same("32: 12 and 13 bring 6", run.leastSalary(0, 6), 12);
    }

    private static void projectedFromNoneToAllMonths() {
        PayrollRun run = paid(1000);
        run.setRate(0, 100);
        run.setCap(0, 10000);
        for (int m = 0; m <= 12; m++) {
            check.same("33: " + m + " are closed", run.projected(0), 11000 * UNIT);
            run.closeMonth();
        }
        run.bonus(0, 11, 9);
        check.same("33: nothing is closed any more", run.projected(0), 11000 * UNIT);
        run.undo();
        run.undo();
        run.bonus(0, 11, 9);
        check.same("33: the last one is open again", run.projected(0), 11009 * UNIT);
        run.bonus(0, 0, 9999);
        check.same("33: with its correction", run.projected(0), 21008 * UNIT);
        check.same("33: another employee", run.projected(2), 0);
    }

    private static void projectedGarnishments() {
        PayrollRun run = paid(1000);
        run.fixed(0, 100, 1200);
        run.fixed(0, 100, 1199);
        run.fixed(0, 100, 1201);
        check.same("33: twelve months of three", run.projected(0), (12000 - 1200 - 1199 - 1200) * UNIT);
        check.same("20: nothing was taken", run.rest(0, 1), 1199 * UNIT);
        Check.closeAll(run);
        check.same("34: the same when closed", run.total(0, 7), (12000 - 1200 - 1199 - 1200) * UNIT);
        check.same("20: what remains", run.rest(0, 0) + run.rest(0, 1) + run.rest(0, 2), UNIT);
        run.newYear();
        check.same("33: the last unit in another year", run.projected(0), 11999 * UNIT);
    }
}
