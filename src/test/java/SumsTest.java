/** Promises 34, 36, 38 and 39: sums over slips, the lowest payout, and corrections. */
public final class SumsTest {
    private static final Check check = new Check();

    public static void main(String[] args) {
        total();
        account();
        lowest();
        corrections();
        check.end();
    }

    /** Employee 0 has 1000, employee 2 has 400; month 0 is halved for employee 0 afterwards. */
    private static PayrollRun two() {
        PayrollRun run = new PayrollRun();
        run.salary(0, 0, 1000);
        run.salary(2, 0, 400);
        run.setRate(0, 100);
        run.setRate(1, 10);
        run.bracket(0, 200);
        run.fixed(0, 50, 60);
        run.fixed(2, 7, 99);
        run.closeMonth();
        run.setFloor(0, 600);
        run.days(0, 0, 15);
        run.closeMonth();
        return run;
    }

    private static void total() {
        PayrollRun run = two();
        check.same("34: gross", run.total(0, 0), 1500000000L);
        check.same("34: social", run.total(0, 1), 150000000L);
        check.same("34: health", run.total(0, 2), 15000000L);
        check.same("34: tax", run.total(0, 3), 267000000L);
        check.same("34: garnish", run.total(0, 5), 50000000L);
        check.same("34: pay", run.total(0, 7), 662000000L + 600000000L);
        check.same("34: owed and carry", run.total(0, 8), 244000000L);
        run.closeMonth();
        check.same("34: owed and carry again", run.total(0, 8), 132000000L);
        check.same("34: of another employee", run.total(2, 5), 21000000L);
        check.same("34: of another employee, tax", run.total(2, 3), 213600000L);
        check.same("34: kind 4", run.total(0, 4), PayrollRun.BAD);
        check.same("34: kind 6", run.total(0, 6), PayrollRun.BAD);
        check.same("34: what 9", run.total(0, 9), PayrollRun.BAD);
        check.same("34: what -1", run.total(0, -1), PayrollRun.BAD);
        check.same("34: employee -1", run.total(-1, 0), PayrollRun.BAD);
        check.same("34: employee 3", run.total(3, 0), PayrollRun.BAD);
        check.same("34: no slips", new PayrollRun().total(0, 0), 0);
        Check.closeAll(run);
        check.same("34: all is paid back", run.total(0, 8), 0);
        run.days(0, 11, 0);
        run.newYear();
        Check.closeAll(run);
        run.salary(0, 0, 0);
        check.same("34: after another year", run.total(0, 0), 12000000000L);
    }

    private static void account() {
        PayrollRun run = two();
        check.same("36: tax of month 0", run.account(0, 0), 178000000L + 71200000L);
        check.same("36: social of month 0", run.account(0, 1), 140000000L);
        check.same("36: health of month 0", run.account(0, 2), 14000000L);
        check.same("36: garnish of month 0", run.account(0, 3), 57000000L);
        check.same("36: payouts of month 0", run.account(0, 4), 662000000L + 277800000L);
        check.same("36: tax of month 1, with its correction", run.account(1, 0), 89000000L + 71200000L);
        check.same("36: garnish of month 1", run.account(1, 3), 7000000L);
        check.same("36: payouts of month 1", run.account(1, 4), 600000000L + 277800000L);
        check.same("36: not closed", run.account(2, 0), PayrollRun.NONE);
        check.same("36: month -1", run.account(-1, 0), PayrollRun.BAD);
        check.same("36: month 12", run.account(12, 0), PayrollRun.BAD);
        check.same("36: what -1", run.account(0, -1), PayrollRun.BAD);
        check.same("36: what 5", run.account(0, 5), PayrollRun.BAD);
        check.same("36: what 5, not closed", run.account(7, 5), PayrollRun.BAD);
    }

    private static void lowest() {
        PayrollRun run = new PayrollRun();
        check.same("38: none closed", run.lowest(0), PayrollRun.NONE);
        run.salary(0, 0, 100);
        run.bonus(0, 0, 50);
        run.days(0, 2, 15);
        run.days(0, 4, 15);
        run.days(0, 5, 3);
        int[] want = {0, 1, 2, 2, 2, 5, 5};
        for (int month = 0; month < want.length; month++) {
            run.closeMonth();
            check.same("38: after month " + month, run.lowest(0), want[month]);
        }
        check.same("38: all are equal", run.lowest(1), 0);
        check.same("38: employee -1", run.lowest(-1), PayrollRun.BAD);
        check.same("38: employee 3", run.lowest(3), PayrollRun.BAD);
    }

    private static void corrections() {
        PayrollRun run = new PayrollRun();
        run.salary(1, 0, 1000);
        run.setRate(0, 100);
        for (int i = 0; i < 4; i++) {
            run.closeMonth();
        }
        check.same("39: none", run.corrections(1, 3), 0);
        run.bonus(1, 1, 6);
        run.bonus(1, 3, 6);
        run.closeMonth();
        check.same("39: months 1 and 3", run.corrections(1, 4), 10);
        check.same("39: an earlier slip stays", run.corrections(1, 3), 0);
        check.same("39: other employee", run.corrections(0, 4), 0);
        run.setRate(0, 101);
        run.closeMonth();
        check.same("39: all earlier ones", run.corrections(1, 5), 31);
        run.fixed(1, 1, 100);
        run.fixed(1, 1, 100);
        run.closeMonth();
        check.same("39: garnishments are none", run.corrections(1, 6), 0);
        run.bonus(1, 2, 0);
        run.salary(1, 6, 0);
        run.salary(1, 7, 100);
        run.closeMonth();
        check.same("39: month 6", run.corrections(1, 7), 64);
        check.same("39: owing is none", run.owed(1) > 0 ? run.closeMonth() : -1, 8);
        check.same("39: owed is no correction", run.corrections(1, 8), 0);
        run.bracket(0, 10);
        run.closeMonth();
        check.same("39: of the tax alone", run.corrections(1, 9), 447);
        check.same("39: not closed", run.corrections(1, 10), PayrollRun.NONE);
        check.same("39: month 12", run.corrections(1, 12), PayrollRun.BAD);
        check.same("39: month -1", run.corrections(1, -1), PayrollRun.BAD);
        check.same("39: employee -1", run.corrections(-1, 0), PayrollRun.BAD);
        check.same("39: employee 3", run.corrections(3, 0), PayrollRun.BAD);
    }
}
