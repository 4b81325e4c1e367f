/**
 * All that a run tells of the state that some calls lead to, and of what is hidden in it: the changes that can be
 * undone, the snapshot, the buffer, the years, and whether a rule was set. Each part is read from a run of its own,
 * so that none has more than 512 calls.
 */
final class Told {
    interface Calls {
        void on(PayrollRun run);
    }

    private final Calls calls;
    private final StringBuilder text = new StringBuilder();

    private Told(Calls calls) {
        this.calls = calls;
    }

    static String after(Calls calls) {
        return new Told(calls).tell();
    }

    private String tell() {
        for (int employee = 0; employee < 3; employee++) {
            months(fresh("months"), employee);
            sums(fresh("sums"), employee);
            slips(employee);
        }
        rules(fresh("rules"));
        changes();
        snapshot();
        buffer();
        nextClosing();
        return text.toString();
    }

    private PayrollRun fresh(String part) {
        text.append('\n').append(part).append(':');
        PayrollRun run = new PayrollRun();
        calls.on(run);
        return run;
    }

    private void tell(long answer) {
        text.append(' ').append(answer);
    }

    private void months(PayrollRun run, int employee) {
        for (int month = 0; month < 12; month++) {
            for (int what = 0; what < 3; what++) {
                tell(run.data(employee, month, what));
            }
            for (int kind = 0; kind < 5; kind++) {
                tell(run.due(employee, month, kind));
                tell(run.settled(employee, month, kind));
            }
            tell(run.lineCount(employee, month));
            tell(run.payout(employee, month));
            tell(run.corrections(employee, month));
        }
    }

    private void sums(PayrollRun run, int employee) {
        for (int what = 0; what < 9; what++) {
            tell(run.total(employee, what));
            tell(run.oneRun(employee, what));
        }
        garnishments(run, employee);
        tell(run.owed(employee));
        tell(run.pending(employee));
        tell(run.preview(employee));
        tell(run.marginal(employee));
        tell(run.leastSalary(employee, 700));
        tell(run.projected(employee));
        tell(run.lowest(employee));
        tell(run.statement(employee, -1));
    }

    private void garnishments(PayrollRun run, int employee) {
        tell(run.garnishment(employee, -1, 0));
        for (int position = 0; position < 3; position++) {
            for (int what = 0; what < 3; what++) {
                tell(run.garnishment(employee, position, what));
            }
            tell(run.rest(employee, position));
        }
    }

    private void slips(int employee) {
        PayrollRun run = fresh("slips");
        int left = 300;
        for (int month = 0; month < 12 && run.lineCount(employee, month) >= 0; month++) {
            int lines = run.lineCount(employee, month);
            if (4 * lines > left) {
                run = fresh("slips from " + month);
                left = 300;
            }
            left -= 4 * lines;
            slip(run, employee, month);
        }
    }

    private void slip(PayrollRun run, int employee, int month) {
        for (int i = 0; i < run.lineCount(employee, month); i++) {
            for (int what = 0; what < 3; what++) {
                tell(run.line(employee, month, i, what));
            }
            tell(run.amount(employee, month, i));
        }
        tell(run.letter(employee, month, -1));
    }

    private void rules(PayrollRun run) {
        tell(run.closed());
        for (int what = 0; what < 6; what++) {
            for (int index = 0; index < 5; index++) {
                tell(run.setting(what, index));
            }
        }
        for (int month = 0; month < 12; month++) {
            for (int what = 0; what < 5; what++) {
                tell(run.account(month, what));
            }
        }
    }

    /** Enough to tell any two states apart that one call lies between. */
    private void brief(PayrollRun run) {
        tell(run.closed());
        for (int employee = 0; employee < 3; employee++) {
            for (int month = 0; month < 12; month++) {
                for (int what = 0; what < 3; what++) {
                    tell(run.data(employee, month, what));
                }
            }
            garnishments(run, employee);
            tell(run.owed(employee));
        }
        for (int what = 0; what < 6; what++) {
            for (int index = 0; index < 5; index++) {
                tell(run.setting(what, index));
            }
        }
    }

    private void changes() {
        for (int steps = 1; steps < 8; steps++) {
            PayrollRun run = fresh("undone " + steps);
            for (int i = 0; i < steps; i++) {
                tell(run.undo());
            }
            brief(run);
        }
    }

    private void snapshot() {
        PayrollRun run = fresh("snapshot");
        tell(run.restore());
        brief(run);
        tell(run.undo());
        tell(run.closed());
    }

    private void buffer() {
        PayrollRun run = fresh("buffer");
        tell(run.feed(';'));
        tell(run.execute());
        run = fresh("buffer, executed as it is");
        tell(run.execute());
        brief(run);
    }

    private void nextClosing() {
        PayrollRun run = fresh("next closing");
        tell(run.newYear());
        run.bonus(0, 0, 1234);
        run.days(0, 1, 29);
        int month = run.closeMonth();
        for (int employee = 0; employee < 3; employee++) {
            slip(run, employee, month);
        }
    }
}
