/** Promises 42 to 44: snapshots, and changes that are taken back. */
public final class UndoTest {
    private static final Check check = new Check();

    public static void main(String[] args) {
        save();
        restore();
        undo();
        everyChangeCanBeUndone();
        onlySixAreKept();
        whatIsNoChange();
        undoAndRestore();
        executeIsOneChange();
        slipsComeBack();
        check.end();
    }

    private static PayrollRun some() {
        PayrollRun run = new PayrollRun();
        run.salary(0, 0, 1000);
        run.days(1, 1, 3);
        run.bonus(2, 2, 50);
        run.setFloor(0, 100);
        run.setRate(0, 10);
        run.setCap(1, 2000);
        run.bracket(10, 30);
        run.fixed(0, 5, 60);
        run.share(0, 15, 70);
        run.closeMonth();
        run.days(0, 0, 10);
        run.closeMonth();
        return run;
    }

    private static void save() {
        PayrollRun run = new PayrollRun();
        check.same("42: none closed", run.save(), 0);
        run.closeMonth();
        check.same("42: the earlier snapshot is there", run.restore(), 0);
        run.closeMonth();
        run.closeMonth();
        check.same("42: two closed", run.save(), 2);
        run.closeMonth();
        check.same("42: in place of the earlier", run.restore(), 2);
        run = some();
        String before = Check.state(run);
        run.save();
        check.same("42: nothing is changed", Check.state(run), before);
    }

    private static void restore() {
        PayrollRun run = new PayrollRun();
        check.same("43: no snapshot", run.restore(), PayrollRun.NONE);
        check.same("43: no change", run.undo(), PayrollRun.NONE);
        run = some();
        String before = Check.state(run);
        run.save();
        run.salary(0, 0, 1);
        run.days(0, 0, 1);
        run.bonus(0, 0, 1);
        run.setFloor(0, 1);
        run.setRate(1, 1);
        run.setCap(0, 1);
        run.clearBrackets();
        run.bracket(9, 9);
        run.bracket(19, 9);
        run.moveGarnishment(0, 0, 1);
        run.dropGarnishment(0, 0);
        run.fixed(1, 7, 7);
        run.closeMonth();
        check.same("43: closed months", run.restore(), 2);
        check.same("43: the whole state", Check.state(run), before);
        run.bonus(0, 0, 77);
        run.closeMonth();
        check.same("43: the snapshot is kept", run.restore(), 2);
        check.same("43: unchanged", Check.state(run), before);
        Check.closeAll(run);
        run.newYear();
        check.same("43: back into the year before", run.restore(), 2);
        check.same("43: with its slips", Check.state(run), before);
        check.same("43: restored twice", run.restore(), 2);
        Check.feed(run, "clo");
        run.save();
        Check.feed(run, "se");
        run.restore();
        check.same("43: without the buffer", run.execute(), 1);
    }

    private static void undo() {
        PayrollRun run = new PayrollRun();
        check.same("44: none", run.undo(), PayrollRun.NONE);
        run.salary(0, 0, 1);
        run.salary(0, 0, 2);
        run.salary(0, 0, 3);
        check.same("44: two remain", run.undo(), 2);
        check.same("44: the latest", run.data(0, 0, 0), 2);
        check.same("44: one remains", run.undo(), 1);
        check.same("44: the one before", run.data(0, 0, 0), 1);
        run.salary(0, 0, 4);
        check.same("44: a change after undo", run.undo(), 1);
        check.same("44: it is gone", run.data(0, 0, 0), 1);
        check.same("44: none remains", run.undo(), 0);
        check.same("44: as new", run.data(0, 0, 0), 0);
        check.same("44: none again", run.undo(), PayrollRun.NONE);
    }

    private static int changeBy(PayrollRun run, int which) {
        switch (which) {
            case 0: return run.salary(0, 0, 7);
            case 1: return run.days(0, 0, 7);
            case 2: return run.bonus(0, 1, 7);
            case 3: return run.setFloor(0, 7);
            case 4: return run.setRate(1, 7);
            case 5: return run.setCap(0, 7);
            case 6: return run.bracket(77, 7);
            case 7: return run.clearBrackets();
            case 8: return run.fixed(0, 7, 7);
            case 9: return run.share(0, 7, 7);
            case 10: return run.dropGarnishment(0, 0);
            case 11: return run.moveGarnishment(0, 1, 0);
            case 12: return run.closeMonth();
            case 13: return Check.execute(run, "floor 0 8;close;drop 0 1");
            default: return run.restore();
        }
    }

    private static void everyChangeCanBeUndone() {
        for (int which = 0; which < 15; which++) {
            PayrollRun run = some();
            run.save();
            run.bonus(2, 0, 30);
            String before = Check.state(run);
            check.same("44: change " + which, changeBy(run, which) >= 0 ? 1 : 0, 1);
            check.same("44: it changes something " + which, Check.state(run).equals(before) ? 1 : 0, 0);
            check.same("44: five remain " + which, run.undo(), 5);
            check.same("44: undone " + which, Check.state(run), before);
            check.same("44: the change before it " + which, run.undo(), 4);
            check.same("44: is undone next " + which, run.data(2, 0, 2), 0);
        }
        PayrollRun run = some();
        Check.closeAll(run);
        String before = Check.state(run);
        run.newYear();
        check.same("44: another year", run.undo(), 5);
        check.same("44: undone", Check.state(run), before);
    }

    private static void onlySixAreKept() {
        PayrollRun run = new PayrollRun();
        for (int i = 1; i <= 9; i++) {
            run.bonus(0, 0, i);
        }
        run.bonus(0, 0, 10000);
        for (int left = 5; left >= 0; left--) {
            check.same("44: remain", run.undo(), left);
            check.same("44: the bonus", run.data(0, 0, 2), left + 3);
        }
        check.same("44: older ones are forgotten", run.undo(), PayrollRun.NONE);
        check.same("44: the bonus stays", run.data(0, 0, 2), 3);
        for (int i = 1; i <= 6; i++) {
            run.days(0, 0, i);
        }
        for (int i = 0; i < 20; i++) {
            run.days(0, 0, 31);
            Check.execute(run, "days 0 0 9;days 0 0 31");
        }
        check.same("44: what fails forgets nothing", run.undo(), 5);
        for (int i = 0; i < 5; i++) {
            run.undo();
        }
        check.same("44: all six", run.data(0, 0, 1), 30);
    }

    private static void whatIsNoChange() {
        PayrollRun run = new PayrollRun();
        run.closed();
        run.save();
        run.feed('c');
        run.execute();
        run.newYear();
        run.due(0, 0, 0);
        run.dropGarnishment(0, 0);
        check.same("44: none of these is a change", run.undo(), PayrollRun.NONE);
        run.salary(0, 0, 0);
        check.same("44: the same value is one", run.undo(), 0);
        run.clearBrackets();
        check.same("44: clearing none is one", run.undo(), 0);
        run.fixed(0, 1, 1);
        run.moveGarnishment(0, 0, 0);
        check.same("44: moving to the same position is one", run.undo(), 1);
        run.restore();
        check.same("44: restoring is one", run.undo(), 1);
        check.same("44: the garnishment is back", run.garnishment(0, -1, 0), 1);
    }

    private static void undoAndRestore() {
        PayrollRun run = new PayrollRun();
        run.bonus(0, 0, 1);
        run.save();
        run.bonus(0, 0, 2);
        run.undo();
        run.undo();
        check.same("44: before the snapshot", run.data(0, 0, 2), 0);
        check.same("43: undo leaves the snapshot", run.restore(), 0);
        check.same("43: its bonus", run.data(0, 0, 2), 1);
        check.same("44: undoes the restoring", run.undo(), 0);
        check.same("44: the bonus before it", run.data(0, 0, 2), 0);
    }

    private static void executeIsOneChange() {
        PayrollRun run = new PayrollRun();
        run.bonus(0, 0, 1);
        Check.execute(run, "bonus 0 0 2;bonus 0 0 3;close");
        check.same("44: one change", run.undo(), 1);
        check.same("44: with all commands", run.data(0, 0, 2) * 10 + run.closed(), 10);
        Check.feed(run, "close");
        check.same("44: the change before", run.undo(), 0);
        check.same("44: the buffer is not undone", run.execute(), 1);
        check.same("44: it is a change", run.undo(), 0);
        check.same("44: the buffer stays empty", run.feed('c'), 1);
    }

    private static void slipsComeBack() {
        PayrollRun run = some();
        String slip = Check.slip(run, 0, 1);
        long rest = run.rest(0, 0);
        run.undo();
        check.same("44: the slip is gone", run.lineCount(0, 1), PayrollRun.NONE);
        check.same("44: what was taken is back", run.rest(0, 0), rest + 5000000L);
        run.bonus(0, 1, 400);
        run.closeMonth();
        check.same("44: another slip", Check.slip(run, 0, 1).equals(slip) ? 1 : 0, 0);
        run.undo();
        run.undo();
        run.closeMonth();
        check.same("44: the same slip again", Check.slip(run, 0, 1), slip);
    }
}
