/** Promises 14, 15, 22 to 24: closing a month, what is settled, pending and owed, another year. */
public final class ClosingTest {
    private static final Check check = new Check();

    public static void main(String[] args) {
        closeMonth();
        ownLines();
        corrections();
        reasonsInTheirOrder();
        ruleSetSince();
        reasonOfATakenBackRule();
        owedAndCarry();
        guaranteeIsAtMostTheNetPay();
        aboveTheFloorByTheGuarantee();
        settled();
        pending();
        owed();
        newYear();
        check.end();
    }

    private static void closeMonth() {
        PayrollRun run = new PayrollRun();
        for (int month = 0; month < 12; month++) {
            check.same("14: next month", run.closeMonth(), month);
            for (int e = 0; e < 3; e++) {
                check.same("14: for all employees", run.lineCount(e, month), 5);
            }
        }
        check.same("14: all are closed", run.closeMonth(), PayrollRun.NONE);
        check.same("14: still", run.closed(), 12);
    }

    private static void ownLines() {
        PayrollRun run = new PayrollRun();
        run.salary(0, 0, 3000);
        run.setRate(0, 100);
        run.setRate(1, 50);
        run.bracket(1000, 200);
        run.salary(1, 1, 10);
        run.closeMonth();
        run.closeMonth();
        check.same("14: own lines", Check.slip(run, 0, 0), "gross 0 0 3000000000;social 0 0 -300000000;"
            + "health 0 0 -150000000;tax 0 0 -310000000;pay 0 0 2240000000;");
        check.same("14: own lines, month 1", Check.slip(run, 0, 1), "gross 1 0 3000000000;social 1 0 -300000000;"
            + "health 1 0 -150000000;tax 1 0 -510000000;pay 0 0 2040000000;");
        check.same("14: own lines of another", Check.slip(run, 1, 1), "gross 1 0 10000000;social 1 0 -1000000;"
            + "health 1 0 -500000;tax 1 0 0;pay 0 0 8500000;");
    }

    /** Back pay in month 0 moves the tax of month 1 too, up the bracket. */
    private static void corrections() {
        PayrollRun run = new PayrollRun();
        run.salary(0, 0, 1000);
        run.setRate(1, 10);
        run.setCap(1, 2500);
        run.bracket(1500, 100);
        run.closeMonth();
        run.closeMonth();
        run.bonus(0, 0, 800);
        run.closeMonth();
        // Due were 0 and 48.0, due are 1800 gross, 18 health, 28.2 tax; then 7 health, 99.3 tax.
        check.same("14: lines of earlier months, ascending, none of 0", Check.slip(run, 0, 2),
            "gross 2 0 1000000000;social 2 0 0;health 2 0 0;tax 2 0 -100000000;"
            + "gross 0 4 800000000;health 0 4 -8000000;tax 0 4 -28200000;"
            + "health 1 6 3000000;tax 1 6 -51300000;pay 0 0 1615500000;");
        run.closeMonth();
        check.same("14: settled now", run.lineCount(0, 3), 5);
        run.bonus(0, 0, 0);
        run.closeMonth();
        check.same("14: taken back", Check.slip(run, 0, 4), "gross 4 0 1000000000;social 4 0 0;health 4 0 0;"
            + "tax 4 0 -100000000;gross 0 4 -800000000;health 0 4 8000000;tax 0 4 28200000;"
            + "health 1 6 -3000000;tax 1 6 51300000;health 2 6 -5000000;tax 2 6 500000;pay 0 0 180000000;");
    }

    private static int reasonOf(PayrollRun run, int slipMonth, int month) {
        for (int i = 4; i < run.lineCount(0, slipMonth); i++) {
            if (run.line(0, slipMonth, i, 0) <= 3 && run.line(0, slipMonth, i, 1) == month) {
                return run.line(0, slipMonth, i, 2);
            }
        }
        return 0;
    }

    private static PayrollRun closedOnce() {
        PayrollRun run = new PayrollRun();
        run.salary(0, 0, 1000);
        run.bracket(0, 100);
        run.bracket(500, 200);
        run.closeMonth();
        return run;
    }

    private static void reasonsInTheirOrder() {
        int[][] cases = {{1500, 1}, {700, 2}, {1000, 3}};
        for (int[] c : cases) {
            PayrollRun run = closedOnce();
            run.salary(0, 0, c[0]);
            run.days(0, 0, 20);
            run.bonus(0, 0, 9);
            run.setRate(0, 10);
            run.closeMonth();
            check.same("14: first reason that applies, salary " + c[0], reasonOf(run, 1, 0), c[1]);
        }
        PayrollRun bonus = closedOnce();
        bonus.bonus(0, 0, 9);
        bonus.setRate(0, 10);
        bonus.closeMonth();
        check.same("14: bonus", reasonOf(bonus, 1, 0), 4);
        bonus.bonus(0, 1, 30);
        bonus.setRate(0, 11);
        bonus.closeMonth();
        check.same("14: bonus of a later month", reasonOf(bonus, 2, 1), 4);
        check.same("14: not that of the month before", reasonOf(bonus, 2, 0), 5);
        PayrollRun back = closedOnce();
        back.salary(0, 0, 5);
        back.salary(0, 0, 1000);
        back.days(0, 0, 3);
        back.days(0, 0, 30);
        back.setRate(0, 10);
        back.closeMonth();
        check.same("14: set back, so not different", reasonOf(back, 1, 0), 5);
        PayrollRun none = closedOnce();
        none.closeMonth();
        none.bonus(0, 0, 600);
        none.clearBrackets();
        none.bracket(0, 100);
        none.bracket(500, 200);
        none.closeMonth();
        check.same("14: rules set, even to the same", reasonOf(none, 2, 0), 4);
        none.bonus(0, 0, 0);
        none.closeMonth();
        check.same("14: compared with the latest settlement", reasonOf(none, 3, 0), 4);
        PayrollRun days = closedOnce();
        days.salary(0, 1, 2000);
        days.salary(0, 0, 1000);
        days.closeMonth();
        days.days(0, 0, 1);
        days.closeMonth();
        check.same("14: days", reasonOf(days, 2, 0), 3);
        check.same("14: a month that was not changed itself", reasonOf(days, 2, 1), 6);
    }

    private static void ruleSetSince() {
        for (int which = 0; which < 5; which++) {
            PayrollRun run = closedOnce();
            run.closeMonth();
            run.setRate(0, 0);
            run.closeMonth();
            check.same("14: the same rule, no difference", run.lineCount(0, 2), 5);
            if (which == 0) {
                run.setRate(1, 30);
            } else if (which == 1) {
                run.setRate(0, 40);
                run.closeMonth();
                run.setCap(0, 500);
            } else if (which == 2) {
                run.bracket(700, 900);
            } else if (which == 3) {
                run.clearBrackets();
            } else {
                check.same("14: by a command", Check.execute(run, "rate 0 9"), 1);
            }
            int month = run.closeMonth();
            check.same("14: a rule was set, way " + which, reasonOf(run, month, 0), 5);
            run.days(0, 0, 10);
            month = run.closeMonth();
            check.same("14: own reason, way " + which, reasonOf(run, month, 0), 3);
            if (which != 3) {
                check.same("14: not since that closing, way " + which, reasonOf(run, month, 1), 6);
            }
        }
        PayrollRun failed = closedOnce();
        failed.closeMonth();
        failed.bonus(0, 0, 400);
        failed.setRate(0, 500);
        failed.bracket(0, 0);
        Check.execute(failed, "rate 0 9;rate 0 500");
        failed.closeMonth();
        check.same("14: what fails sets no rule", reasonOf(failed, 2, 1), 0);
        PayrollRun fails = tiered();
        fails.setCap(0, -1);
        fails.bracket(300, 5);
        Check.execute(fails, "rate 0 9;rate 0 500");
        fails.bonus(0, 0, 400);
        fails.closeMonth();
        check.same("14: what fails sets no rule, reason 6", reasonOf(fails, 2, 1), 6);
    }

    /** Month 1 lies across a threshold: what is due for it follows month 0. */
    private static PayrollRun tiered() {
        PayrollRun run = new PayrollRun();
        run.salary(0, 0, 1000);
        run.bracket(1500, 100);
        run.closeMonth();
        run.closeMonth();
        return run;
    }

    private static void reasonOfATakenBackRule() {
        PayrollRun run = tiered();
        run.setRate(0, 10);
        run.undo();
        run.bonus(0, 0, 400);
        run.closeMonth();
        check.same("14: one that was undone was not set", reasonOf(run, 2, 1), 6);
        PayrollRun kept = tiered();
        kept.setRate(0, 0);
        kept.setRate(0, 10);
        kept.undo();
        kept.bonus(0, 0, 400);
        kept.closeMonth();
        check.same("14: the one before it was", reasonOf(kept, 2, 1), 5);
        PayrollRun snapshot = tiered();
        snapshot.save();
        snapshot.setRate(0, 10);
        snapshot.restore();
        snapshot.bonus(0, 0, 400);
        snapshot.closeMonth();
        check.same("43: the state before the rule", reasonOf(snapshot, 2, 1), 6);
        PayrollRun closing = tiered();
        closing.setRate(0, 0);
        closing.closeMonth();
        closing.undo();
        closing.bonus(0, 0, 400);
        closing.closeMonth();
        check.same("44: the closing is undone, the rule is set", reasonOf(closing, 2, 1), 5);
    }

    private static void owedAndCarry() {
        PayrollRun run = new PayrollRun();
        run.salary(0, 0, 1000);
        run.setFloor(0, 300);
        run.closeMonth();
        run.salary(0, 0, 0);
        run.salary(0, 1, 1000);
        run.closeMonth();
        check.same("14: carries what is below the floor", Check.slip(run, 0, 1), "gross 1 0 1000000000;social 1 0 0;"
            + "health 1 0 0;tax 1 0 0;gross 0 2 -1000000000;carry 0 0 300000000;pay 0 0 300000000;");
        run.closeMonth();
        check.same("14: owes it", Check.slip(run, 0, 2), "gross 2 0 1000000000;social 2 0 0;health 2 0 0;tax 2 0 0;"
            + "owed 0 0 -300000000;pay 0 0 700000000;");
        check.same("14: owes no more", run.owed(0), 0);
        run.salary(0, 0, 0);
        run.closeMonth();
        check.same("14: owes all of it, no net pay", Check.slip(run, 0, 3), "gross 3 0 0;social 3 0 0;health 3 0 0;"
            + "tax 3 0 0;gross 1 2 -1000000000;gross 2 2 -1000000000;carry 0 0 2000000000;pay 0 0 0;");
        run.salary(0, 4, 500);
        run.closeMonth();
        check.same("14: owed and carry", Check.slip(run, 0, 4), "gross 4 0 500000000;social 4 0 0;health 4 0 0;"
            + "tax 4 0 0;owed 0 0 -2000000000;carry 0 0 1800000000;pay 0 0 300000000;");
        run.salary(0, 5, 2100);
        run.closeMonth();
        check.same("14: the balance is the guarantee", Check.slip(run, 0, 5), "gross 5 0 2100000000;social 5 0 0;"
            + "health 5 0 0;tax 5 0 0;owed 0 0 -1800000000;pay 0 0 300000000;");
    }

    private static void guaranteeIsAtMostTheNetPay() {
        PayrollRun run = new PayrollRun();
        run.salary(1, 0, 200);
        run.setRate(0, 250);
        run.setFloor(1, 9999);
        run.closeMonth();
        check.same("14: all of the net pay is below the floor", run.payout(1, 0), 150000000L);
        check.same("14: nothing is owed", run.owed(1), 0);
        run.days(1, 0, 15);
        run.closeMonth();
        check.same("14: the net pay is the guarantee", run.payout(1, 1), 150000000L);
        check.same("14: the correction is owed", run.owed(1), 75000000L);
        run.setFloor(1, 0);
        run.closeMonth();
        check.same("14: without a floor all is given back", run.payout(1, 2), 75000000L);
        check.same("14: nothing more is owed", run.owed(1), 0);
    }

    /** The guarantee counts for garnishments when it is greater than the balance: it is never above the floor. */
    private static void aboveTheFloorByTheGuarantee() {
        PayrollRun run = new PayrollRun();
        run.salary(0, 0, 1000);
        run.closeMonth();
        run.fixed(0, 10, 1000);
        run.days(0, 0, 0);
        run.closeMonth();
        check.same("14: the balance is 0, the floor too", Check.slip(run, 0, 1), "gross 1 0 1000000000;social 1 0 0;"
            + "health 1 0 0;tax 1 0 0;gross 0 3 -1000000000;garnish 0 3 0;pay 0 0 0;");
        run.days(0, 1, 15);
        run.setFloor(0, 100);
        run.closeMonth();
        check.same("14: 400 above the floor", Check.slip(run, 0, 2), "gross 2 0 1000000000;social 2 0 0;"
            + "health 2 0 0;tax 2 0 0;gross 1 3 -500000000;garnish 0 1 -10000000;pay 0 0 490000000;");
        run.days(0, 2, 3);
        run.closeMonth();
        check.same("14: the guarantee is greater than the balance", Check.slip(run, 0, 3),
            "gross 3 0 1000000000;social 3 0 0;health 3 0 0;tax 3 0 0;gross 2 3 -900000000;garnish 0 3 0;"
            + "pay 0 0 100000000;");
        run.days(0, 3, 2);
        run.closeMonth();
        check.same("14: it owes the difference of 66 and 100", run.owed(0), 34000000L);
    }

    private static void settled() {
        PayrollRun run = new PayrollRun();
        run.salary(0, 0, 1000);
        run.setRate(0, 100);
        run.setRate(1, 50);
        run.bracket(0, 200);
        check.same("22: not closed", run.settled(0, 0, 0), PayrollRun.NONE);
        run.closeMonth();
        long[] want = {1000000000L, 100000000L, 50000000L, 170000000L, 680000000L};
        for (int kind = 0; kind < 5; kind++) {
            check.same("22: kind " + kind, run.settled(0, 0, kind), want[kind]);
        }
        run.bonus(0, 0, 1000);
        check.same("22: stays until a closing", run.settled(0, 0, 4), 680000000L);
        run.closeMonth();
        for (int kind = 0; kind < 5; kind++) {
            check.same("22: settled anew, kind " + kind, run.settled(0, 0, kind), 2 * want[kind]);
        }
        check.same("22: month 1", run.settled(0, 1, 4), 680000000L);
        check.same("22: month 2", run.settled(0, 2, 4), PayrollRun.NONE);
        check.same("22: employee -1", run.settled(-1, 0, 0), PayrollRun.BAD);
        check.same("22: employee 3", run.settled(3, 0, 0), PayrollRun.BAD);
        check.same("22: month -1", run.settled(0, -1, 0), PayrollRun.BAD);
        check.same("22: month 12", run.settled(0, 12, 0), PayrollRun.BAD);
        check.same("22: kind -1", run.settled(0, 0, -1), PayrollRun.BAD);
        check.same("22: kind 5 of a month that isn't closed", run.settled(0, 5, 5), PayrollRun.BAD);
    }

    private static void pending() {
        PayrollRun run = new PayrollRun();
        check.same("23: nothing closed", run.pending(0), 0);
        run.salary(0, 0, 1000);
        run.closeMonth();
        run.closeMonth();
        check.same("23: nothing changed", run.pending(0), 0);
        run.setRate(0, 100);
        check.same("23: two months of it", run.pending(0), -200000000L);
        run.bonus(0, 1, 500);
        check.same("23: and a bonus", run.pending(0), 250000000L);
        run.bonus(0, 2, 77);
        check.same("23: only closed months", run.pending(0), 250000000L);
        check.same("23: other employee", run.pending(1), 0);
        run.closeMonth();
        check.same("23: settled", run.pending(0), 0);
        check.same("23: employee -1", run.pending(-1), Long.MIN_VALUE);
        check.same("23: employee 3", run.pending(3), Long.MIN_VALUE);
    }

    private static void owed() {
        PayrollRun run = new PayrollRun();
        run.salary(2, 0, 100);
        run.closeMonth();
        run.salary(2, 0, 40);
        run.closeMonth();
        check.same("24: 40 - 60 is below 0", run.owed(2), 20000000L);
        check.same("24: other employee", run.owed(0), 0);
        run.closeMonth();
        check.same("24: paid back", run.owed(2), 0);
        check.same("24: employee -1", run.owed(-1), PayrollRun.BAD);
        check.same("24: employee 3", run.owed(3), PayrollRun.BAD);
    }

    private static void newYear() {
        PayrollRun run = new PayrollRun();
        check.same("15: no month is closed", run.newYear(), PayrollRun.NONE);
        run.salary(0, 0, 1000);
        run.salary(0, 11, 1200);
        run.days(0, 3, 9);
        run.bonus(0, 5, 70);
        run.setFloor(0, 300);
        run.setRate(0, 100);
        run.setCap(1, 400);
        run.bracket(500, 100);
        for (int i = 0; i < 11; i++) {
            run.closeMonth();
        }
        check.same("15: 11 months are closed", run.newYear(), PayrollRun.NONE);
        run.days(0, 0, 0);
        run.days(0, 1, 0);
        run.closeMonth();
        long owed = run.owed(0);
        check.same("15: something is owed", owed > 0 ? 1 : 0, 1);
        check.same("15: first", run.newYear(), 1);
        check.same("15: no month is closed then", run.closed(), 0);
        check.same("15: salary of the first month", run.data(0, 0, 0), 1200);
        check.same("15: salary of the last month", run.data(0, 11, 0), 1200);
        check.same("15: days", run.data(0, 3, 1), 30);
        check.same("15: bonus", run.data(0, 5, 2), 0);
        check.same("15: floor", run.setting(0, 0), 300);
        check.same("15: rate", run.setting(1, 0), 100);
        check.same("15: cap", run.setting(2, 1), 400);
        check.same("15: bracket", run.setting(3, 0), 500);
        check.same("15: owed", run.owed(0), owed);
        check.same("15: slips are gone", run.payout(0, 0), PayrollRun.NONE);
        check.same("15: last slip too", run.lineCount(0, 11), PayrollRun.NONE);
        check.same("15: totals too", run.total(0, 0), 0);
        check.same("15: settlements too", run.settled(0, 0, 0), PayrollRun.NONE);
        check.same("15: nothing is pending", run.pending(0), 0);
        check.same("15: sums begin anew", run.due(0, 0, 3), 58000000L);
        run.closeMonth();
        check.same("15: owed in the first slip", run.line(0, 0, 4, 0), 4);
        check.same("15: all of it", run.amount(0, 0, 4), -owed);
        Check.closeAll(run);
        check.same("15: second", run.newYear(), 2);
        check.same("15: taken back", run.undo() >= 0 ? run.closed() : -1, 12);
        check.same("15: second again", run.newYear(), 2);
        Check.closeAll(run);
        run.save();
        check.same("15: third", run.newYear(), 3);
        run.restore();
        check.same("15: third, after it was taken back by the snapshot", run.newYear(), 3);
    }
}
