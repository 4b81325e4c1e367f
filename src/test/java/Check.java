/** What the tests share: compares answers, counts the wrong ones, and ends with exit code 1 if there was one. */
final class Check {
    private int checks = 0;
    private int wrong = 0;

    void same(String call, long got, long want) {
        checks++;
        if (got != want) {
            wrong++;
            System.out.println(call + " answered " + got + ", due is " + want);
        }
    }

    void same(String call, String got, String want) {
        checks++;
        if (!got.equals(want)) {
            wrong++;
            System.out.println(call + " answered \"" + got + "\", due is \"" + want + "\"");
        }
    }

    void fail(String text) {
        same(text, "failed", "fine");
    }

    int wrong() {
        return wrong;
    }

    void end() {
        System.out.println(checks + " checks, " + wrong + " wrong");
        if (wrong != 0) {
            System.exit(1);
        }
    }

    static void feed(PayrollRun run, String text) {
        for (int i = 0; i < text.length(); i++) {
            run.feed(text.charAt(i));
        }
    }

    static int execute(PayrollRun run, String text) {
        feed(run, text);
        return run.execute();
    }

    /** The text of a slip, read letter by letter. */
    static String slip(PayrollRun run, int employee, int month) {
        StringBuilder text = new StringBuilder();
        int length = run.letter(employee, month, -1);
        for (int i = 0; i < length; i++) {
            text.append((char) run.letter(employee, month, i));
        }
        return text.toString();
    }

    static String statement(PayrollRun run, int employee) {
        StringBuilder text = new StringBuilder();
        int length = run.statement(employee, -1);
        for (int i = 0; i < length; i++) {
            text.append((char) run.statement(employee, i));
        }
        return text.toString();
    }

    static void closeAll(PayrollRun run) {
        for (int i = 0; i < 12 && run.closed() < 12; i++) {
            run.closeMonth();
        }
    }

    /** Everything that a run tells of its state, but for the buffer, the snapshot and what can be undone. */
    static String state(PayrollRun run) {
        StringBuilder text = new StringBuilder();
        text.append(run.closed());
        for (int employee = 0; employee < 3; employee++) {
            for (int month = 0; month < 12; month++) {
                for (int what = 0; what < 3; what++) {
                    text.append(' ').append(run.data(employee, month, what));
                }
                for (int kind = 0; kind < 5; kind++) {
                    text.append(' ').append(run.due(employee, month, kind));
                    text.append(' ').append(run.settled(employee, month, kind));
                }
                text.append(' ').append(slip(run, employee, month));
            }
            for (int position = 0; position < 3; position++) {
                for (int what = 0; what < 3; what++) {
                    text.append(' ').append(run.garnishment(employee, position, what));
                }
                text.append(' ').append(run.rest(employee, position));
            }
            text.append(' ').append(run.owed(employee)).append(' ').append(run.preview(employee));
            text.append(' ').append(run.projected(employee)).append(' ').append(run.pending(employee));
        }
        for (int what = 0; what < 6; what++) {
            for (int index = 0; index < 5; index++) {
                text.append(' ').append(run.setting(what, index));
            }
        }
        return text.toString();
    }
}
