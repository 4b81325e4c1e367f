/** Promises 30 to 33: what closings to come would bring. */
public final class ForecastTest {
    private static final Check check = new Check();

    public static void main(String[] args) {
        preview();
        marginal();
        marginalAtTheGreatestBonus();
        leastSalary();
        leastSalaryBounds();
        projected();
        nothingIsChanged();
        check.end();
    }

    private static PayrollRun some() {
        PayrollRun run = new PayrollRun();
        run.salary(0, 0, 1000);
        run.setRate(0, 100);
        run.bracket(1500, 200);
        run.setFloor(0, 500);
        run.share(0, 500, 300);
        return run;
    }

    private static void preview() {
        PayrollRun run = some();
        check.same("30: month 0", run.preview(0), 700000000L);
        check.same("30: nothing was closed", run.closed(), 0);
        check.same("30: nothing was taken", run.rest(0, 0), 300000000L);
        for (int i = 0; i < 4; i++) {
            run.days(0, i, 10);
            long preview = run.preview(0);
            run.closeMonth();
            check.same("30: what closing brought", run.payout(0, i), preview);
        }
        run.days(0, 0, 0);
        // 900 less 59.82 tax and less 299.7: half of the 40.48 above the floor is taken.
        check.same("30: with a correction", run.preview(0), 520240000L);
        run.days(0, 1, 0);
        check.same("30: with corrections, the floor is kept", run.preview(0), 500000000L);
        check.same("30: nothing is owed by that", run.owed(0), 0);
        check.same("30: other employee", run.preview(2), 0);
        check.same("30: employee -1", run.preview(-1), PayrollRun.BAD);
        check.same("30: employee 3", run.preview(3), PayrollRun.BAD);
        Check.closeAll(run);
        check.same("30: all closed", run.preview(0), PayrollRun.NONE);
        check.same("30: all closed, employee 3", run.preview(3), PayrollRun.BAD);
    }

    private static void marginal() {
        PayrollRun run = some();
        check.same("31: half of 0.9 is taken", run.marginal(0), 450000L);
        run.dropGarnishment(0, 0);
        check.same("31: no garnishment", run.marginal(0), 900000L);
        run.closeMonth();
        check.same("31: above the bracket", run.marginal(0), 720000L);
        run.days(0, 0, 0);
        check.same("31: 2 days less now, below the bracket", run.marginal(0), 0);
        run.days(0, 0, 30);
        run.setCap(0, 2000);
        check.same("31: at the cap", run.marginal(0), 800000L);
        run.setCap(0, 2001);
        check.same("31: below the cap", run.marginal(0), 720000L);
        check.same("31: no bonus was set", run.data(0, 1, 2), 0);
        check.same("31: employee -1", run.marginal(-1), PayrollRun.BAD);
        check.same("31: employee 3", run.marginal(3), PayrollRun.BAD);
        Check.closeAll(run);
        check.same("31: all closed", run.marginal(0), PayrollRun.NONE);
    }

    private static void marginalAtTheGreatestBonus() {
        PayrollRun run = new PayrollRun();
        run.bonus(1, 0, 9999);
        check.same("31: even if it is 9999", run.marginal(1), 1000000L);
        run.bracket(9998, 100);
        check.same("31: taxed", run.marginal(1), 900000L);
    }

    private static void leastSalary() {
        PayrollRun run = new PayrollRun();
        check.same("32: no rules", run.leastSalary(0, 777), 777);
        check.same("32: nothing wanted", run.leastSalary(0, 0), 0);
        check.same("32: the greatest", run.leastSalary(0, 9999), 9999);
        check.same("32: more than that", run.leastSalary(0, 10000), PayrollRun.NONE);
        run.bonus(0, 0, 700);
        check.same("32: a bonus counts", run.leastSalary(0, 777), 77);
        check.same("32: the bonus is enough", run.leastSalary(0, 700), 0);
        check.same("32: with the greatest", run.leastSalary(0, 10699), 9999);
        check.same("32: not more", run.leastSalary(0, 10700), PayrollRun.NONE);
        run.days(0, 0, 20);
        check.same("32: 115 * 20 / 30 is 76, 116 gives 77", run.leastSalary(0, 777), 116);
        run.days(0, 0, 0);
        check.same("32: no days", run.leastSalary(0, 701), PayrollRun.NONE);
        check.same("32: no days needed", run.leastSalary(0, 700), 0);
        run = new PayrollRun();
        run.setRate(0, 100);
        run.bracket(1000, 500);
        // 1111 leaves 999.9, 1112 leaves 1000.8 and 0.4 of tax.
        check.same("32: below the bracket", run.leastSalary(0, 1000), 1112);
        check.same("32: above it", run.leastSalary(0, 1100), 1334);
        run.salary(0, 0, 1000);
        run.closeMonth();
        check.same("32: next month, nearly at the bracket", run.leastSalary(0, 100), 112);
        check.same("32: next month, above the bracket", run.leastSalary(0, 450), 889);
        run.salary(0, 1, 5555);
        check.same("32: whatever its salary is", run.leastSalary(0, 450), 889);
        run.bonus(0, 0, 200);
        check.same("32: by what is due now", run.leastSalary(0, 450), 1000);
    }

    private static void leastSalaryBounds() {
        PayrollRun run = new PayrollRun();
        check.same("32: employee -1", run.leastSalary(-1, 0), PayrollRun.BAD);
        check.same("32: employee 3", run.leastSalary(3, 0), PayrollRun.BAD);
        check.same("32: net -1", run.leastSalary(0, -1), PayrollRun.BAD);
        check.same("32: net 100000", run.leastSalary(0, 100000), PayrollRun.BAD);
        check.same("32: net 99999", run.leastSalary(0, 99999), PayrollRun.NONE);
        Check.closeAll(run);
        check.same("32: all closed", run.leastSalary(0, 0), PayrollRun.NONE);
        check.same("32: all closed, net -1", run.leastSalary(0, -1), PayrollRun.BAD);
    }

    private static void projected() {
        PayrollRun run = some();
        // 900 a month less tax 20% above 1500 of the sums, less the debt of 300.
        check.same("33: the whole year", run.projected(0), 12 * 900000000L - 1860000000L - 300000000L);
        check.same("33: nothing was closed", run.closed(), 0);
        run.closeMonth();
        run.closeMonth();
        check.same("33: with what was paid", run.projected(0), 12 * 900000000L - 1860000000L - 300000000L);
        run.days(0, 0, 0);
        check.same("33: with corrections to come", run.projected(0), 11 * 900000000L - 1680000000L - 300000000L);
        check.same("33: other employee", run.projected(1), 0);
        check.same("33: employee -1", run.projected(-1), PayrollRun.BAD);
        check.same("33: employee 3", run.projected(3), PayrollRun.BAD);
        long projected = run.projected(0);
        Check.closeAll(run);
        check.same("33: so it came", run.projected(0), projected);
        check.same("33: it is the total", run.total(0, 7), projected);
        run.bonus(0, 3, 5000);
        check.same("33: no month remains", run.projected(0), projected);
    }

    private static void nothingIsChanged() {
        PayrollRun run = some();
        run.closeMonth();
        run.days(0, 0, 3);
        run.fixed(0, 7, 700);
        String before = Check.state(run);
        run.preview(0);
        run.marginal(0);
        run.leastSalary(0, 500);
        run.projected(0);
        check.same("30 to 33: nothing is changed", Check.state(run), before);
        run.undo();
        check.same("30 to 33: they are no changes", run.garnishment(0, -1, 0), 1);
    }
}
