/** Promises 1 to 5, 16 and 17: a new object, the data of employees and months, and floors. */
public final class EntriesTest {
    private static final Check check = new Check();

    public static void main(String[] args) {
        newObject();
        salary();
        days();
        bonus();
        setFloor();
        closed();
        data();
        check.end();
    }

    private static void newObject() {
        PayrollRun run = new PayrollRun();
        check.same("1: closed()", run.closed(), 0);
        for (int e = 0; e < 3; e++) {
            for (int m = 0; m < 12; m++) {
                check.same("1: salary", run.data(e, m, 0), 0);
                check.same("1: days", run.data(e, m, 1), 30);
                check.same("1: bonus", run.data(e, m, 2), 0);
                check.same("1: no slip", run.lineCount(e, m), PayrollRun.NONE);
            }
            check.same("1: floor", run.setting(0, e), 0);
            check.same("1: garnishments", run.garnishment(e, -1, 0), 0);
            check.same("1: owed", run.owed(e), 0);
        }
        for (int c = 0; c < 2; c++) {
            check.same("1: rate", run.setting(1, c), 0);
            check.same("1: cap", run.setting(2, c), 99999);
        }
        check.same("1: brackets", run.setting(5, 0), 0);
        check.same("1: no snapshot", run.restore(), PayrollRun.NONE);
        check.same("1: no change", run.undo(), PayrollRun.NONE);
        check.same("1: buffer empty", run.feed('a'), 1);
    }

    private static void salary() {
        PayrollRun run = new PayrollRun();
        check.same("2: first", run.salary(1, 4, 9999), 0);
        check.same("2: same month", run.salary(1, 4, 3000), 9999);
        check.same("2: later month follows", run.salary(1, 11, 0), 3000);
        check.same("2: earlier month stays", run.data(1, 3, 0), 0);
        check.same("2: months from it on", run.data(1, 10, 0), 3000);
        check.same("2: last month", run.data(1, 11, 0), 0);
        check.same("2: other employee", run.data(0, 4, 0), 0);
        check.same("2: overwrites later ones", run.salary(1, 0, 7), 0);
        check.same("2: overwritten", run.data(1, 11, 0), 7);
        check.same("2: employee -1", run.salary(-1, 0, 1), PayrollRun.BAD);
        check.same("2: employee 3", run.salary(3, 0, 1), PayrollRun.BAD);
        check.same("2: month -1", run.salary(0, -1, 1), PayrollRun.BAD);
        check.same("2: month 12", run.salary(0, 12, 1), PayrollRun.BAD);
        check.same("2: amount -1", run.salary(0, 0, -1), PayrollRun.BAD);
        check.same("2: amount 10000", run.salary(0, 0, 10000), PayrollRun.BAD);
        check.same("2: nothing changed", run.data(0, 0, 0), 0);
        run.closeMonth();
        check.same("2: a closed month too", run.salary(1, 0, 8), 7);
    }

    private static void days() {
        PayrollRun run = new PayrollRun();
        check.same("3: first", run.days(2, 5, 0), 30);
        check.same("3: second", run.days(2, 5, 30), 0);
        check.same("3: third", run.days(2, 5, 17), 30);
        check.same("3: later month stays", run.data(2, 6, 1), 30);
        check.same("3: earlier month stays", run.data(2, 4, 1), 30);
        check.same("3: other employee stays", run.data(1, 5, 1), 30);
        check.same("3: employee -1", run.days(-1, 0, 1), PayrollRun.BAD);
        check.same("3: employee 3", run.days(3, 0, 1), PayrollRun.BAD);
        check.same("3: month -1", run.days(0, -1, 1), PayrollRun.BAD);
        check.same("3: month 12", run.days(0, 12, 1), PayrollRun.BAD);
        check.same("3: days -1", run.days(0, 0, -1), PayrollRun.BAD);
        check.same("3: days 31", run.days(0, 0, 31), PayrollRun.BAD);
        check.same("3: nothing changed", run.data(0, 0, 1), 30);
    }

    private static void bonus() {
        PayrollRun run = new PayrollRun();
        check.same("4: first", run.bonus(0, 11, 9999), 0);
        check.same("4: second", run.bonus(0, 11, 5), 9999);
        check.same("4: other month stays", run.data(0, 10, 2), 0);
        check.same("4: in a middle month", run.bonus(0, 3, 6), 0);
        check.same("4: later month stays", run.data(0, 4, 2), 0);
        check.same("4: other employee stays", run.data(1, 3, 2), 0);
        check.same("4: employee -1", run.bonus(-1, 0, 1), PayrollRun.BAD);
        check.same("4: employee 3", run.bonus(3, 0, 1), PayrollRun.BAD);
        check.same("4: month -1", run.bonus(0, -1, 1), PayrollRun.BAD);
        check.same("4: month 12", run.bonus(0, 12, 1), PayrollRun.BAD);
        check.same("4: amount -1", run.bonus(0, 0, -1), PayrollRun.BAD);
        check.same("4: amount 10000", run.bonus(0, 0, 10000), PayrollRun.BAD);
        check.same("4: nothing changed", run.data(0, 0, 2), 0);
    }

    private static void setFloor() {
        PayrollRun run = new PayrollRun();
        check.same("5: first", run.setFloor(2, 9999), 0);
        check.same("5: second", run.setFloor(2, 0), 9999);
        check.same("5: third", run.setFloor(2, 12), 0);
        check.same("5: it is set", run.setting(0, 2), 12);
        check.same("5: other employee stays", run.setting(0, 1), 0);
        check.same("5: employee -1", run.setFloor(-1, 1), PayrollRun.BAD);
        check.same("5: employee 3", run.setFloor(3, 1), PayrollRun.BAD);
        check.same("5: amount -1", run.setFloor(0, -1), PayrollRun.BAD);
        check.same("5: amount 10000", run.setFloor(0, 10000), PayrollRun.BAD);
        check.same("5: nothing changed", run.setting(0, 0), 0);
    }

    private static void closed() {
        PayrollRun run = new PayrollRun();
        for (int month = 0; month < 12; month++) {
            check.same("16: before", run.closed(), month);
            run.closeMonth();
        }
        check.same("16: all", run.closed(), 12);
        run.newYear();
        check.same("16: another year", run.closed(), 0);
    }

    private static void data() {
        PayrollRun run = new PayrollRun();
        run.salary(1, 2, 300);
        run.days(1, 2, 20);
        run.bonus(1, 2, 10);
        check.same("17: salary", run.data(1, 2, 0), 300);
        check.same("17: days", run.data(1, 2, 1), 20);
        check.same("17: bonus", run.data(1, 2, 2), 10);
        check.same("17: employee -1", run.data(-1, 0, 0), PayrollRun.BAD);
        check.same("17: employee 3", run.data(3, 0, 0), PayrollRun.BAD);
        check.same("17: month -1", run.data(0, -1, 0), PayrollRun.BAD);
        check.same("17: month 12", run.data(0, 12, 0), PayrollRun.BAD);
        check.same("17: what -1", run.data(0, 0, -1), PayrollRun.BAD);
        check.same("17: what 3", run.data(0, 0, 3), PayrollRun.BAD);
    }
}
