/** Promises 40 and 41: the text buffer and its commands. */
public final class CommandsTest {
    private static final Check check = new Check();

    public static void main(String[] args) {
        feed();
        everyCommand();
        errorPositions();
        commandErrors();
        nothingHasAnEffect();
        theBufferIsEmptyAfterwards();
        manyCommands();
        againstThePattern();
        check.end();
    }

    private static void feed() {
        PayrollRun run = new PayrollRun();
        check.same("40: 31", run.feed(31), PayrollRun.BAD);
        check.same("40: 127", run.feed(127), PayrollRun.BAD);
        check.same("40: -1", run.feed(-1), PayrollRun.BAD);
        check.same("40: 65536 + 65", run.feed(65601), PayrollRun.BAD);
        check.same("40: 32", run.feed(32), 1);
        check.same("40: 126", run.feed(126), 2);
        for (int i = 3; i <= 60; i++) {
            check.same("40: character " + i, run.feed(32 + i), i);
        }
        check.same("40: character 61", run.feed(65), PayrollRun.FULL);
        check.same("40: character 61 is bad", run.feed(31), PayrollRun.BAD);
        check.same("40: still full", run.feed(65), PayrollRun.FULL);
        check.same("40: the first was a blank", run.execute(), -100);
        check.same("40: room again", run.feed(65), 1);
    }

    private static void everyCommand() {
        PayrollRun run = new PayrollRun();
        check.same("41: salary", Check.execute(run, "salary 2 3 9999"), 1);
        check.same("41: salary set", run.data(2, 3, 0) + run.data(2, 11, 0) + run.data(2, 2, 0), 19998);
        check.same("41: days", Check.execute(run, "days 2 3 7"), 1);
        check.same("41: days set", run.data(2, 3, 1), 7);
        check.same("41: bonus", Check.execute(run, "bonus 2 3 8"), 1);
        check.same("41: bonus set", run.data(2, 3, 2), 8);
        check.same("41: floor", Check.execute(run, "floor 1 9"), 1);
        check.same("41: floor set", run.setting(0, 1), 9);
        check.same("41: rate", Check.execute(run, "rate 1 10"), 1);
        check.same("41: rate set", run.setting(1, 1), 10);
        check.same("41: cap", Check.execute(run, "cap 0 99999"), 1);
        check.same("41: cap, set again", Check.execute(run, "cap 1 11"), 1);
        check.same("41: cap set", run.setting(2, 1), 11);
        check.same("41: bracket", Check.execute(run, "bracket 12 13"), 1);
        check.same("41: threshold set", run.setting(3, 0), 12);
        check.same("41: rate of it", run.setting(4, 0), 13);
        check.same("41: fixed", Check.execute(run, "fixed 0 14 15"), 1);
        check.same("41: fixed set", run.garnishment(0, 0, 1) * 100 + run.garnishment(0, 0, 2), 1415);
        check.same("41: share", Check.execute(run, "share 0 16 17"), 1);
        check.same("41: share set", run.garnishment(0, 1, 1) * 100 + run.garnishment(0, 1, 2), 1617);
        check.same("41: kinds", run.garnishment(0, 0, 0) * 10 + run.garnishment(0, 1, 0), 1);
        check.same("41: move", Check.execute(run, "move 0 1 0"), 1);
        check.same("41: moved", run.garnishment(0, 0, 0) * 10 + run.garnishment(0, 1, 0), 10);
        check.same("41: drop", Check.execute(run, "drop 0 0"), 1);
        check.same("41: dropped", run.garnishment(0, -1, 0) * 10 + run.garnishment(0, 0, 0), 10);
        check.same("41: close", Check.execute(run, "close"), 1);
        check.same("41: closed", run.closed(), 1);
        check.same("41: leading zeros", Check.execute(run, "bonus 00000 00001 00077"), 1);
        check.same("41: number of five digits", run.data(0, 1, 2), 77);
        check.same("41: several", Check.execute(run, "floor 0 5;close;close;drop 0 0"), 4);
        check.same("41: all of them", run.closed() * 10 + run.garnishment(0, -1, 0), 30);
        check.same("41: in their order", Check.execute(run, "salary 0 0 5;salary 0 0 6;days 0 0 3;days 0 0 4"), 4);
        check.same("41: the later ones last", run.data(0, 0, 0) * 10 + run.data(0, 0, 1), 64);
    }

    private static void errorPositions() {
        PayrollRun run = new PayrollRun();
        String[] texts = {"", " ", ";", "x", "1", "Close", "close ", "close;", "close;;", "close close", "close1",
            "closeX", "closes", "clos", "c", "close;clos", "close;x;close", "salary", "salary;", "salary ", "salary1",
            "salary  1", "salary 1", "salary 1 ", "salary 1 2", "salary 1 2;", "salary 1 2 3 ", "salary 1 2 3 4",
            "salary 1 2 123456", "salary 123456", "salary 12345", "salary -1 2 3", "salary x", "rate 0", "rate 0;",
            "rate 0 1 2", "rates 0 1", "setfloor 0 1", "closeclose", "close;salaryclose", "drop 0 0x", "move 0 0",
            "cap 0 1,", "fixed 1 2 3;share", "bracket 1 2;bracket 1", "newyear", "clearBrackets", "~close",
            "days 1 2 3;days 1 2 3 ;", "salary 1 2 3;SALARY 1 2 3", "xlose", "close;talary 1 2 3", "closf"};
        int[] want = {0, 0, 0, 0, 0, 0, 5, 6, 6, 5, 5,
            5, 0, 0, 0, 6, 6, 6, 6, 7, 6,
            7, 8, 9, 10, 10, 12, 12,
            16, 12, 12, 7, 7, 6, 6,
            8, 0, 0, 0, 6, 8, 8,
            7, 17, 21, 0, 0, 0,
            21, 13, 0, 6, 0};
        check.same("the test's own lists", texts.length, want.length);
        for (int i = 0; i < texts.length && i < want.length; i++) {
            check.same("41: \"" + texts[i] + "\"", Check.execute(run, texts[i]), -100 - want[i]);
        }
        check.same("41: nothing was done", run.closed(), 0);
        check.same("41: and no change", run.undo(), PayrollRun.NONE);
        String full = "close;close;close;close;close;close;close;close;close;close;";
        check.same("41: 60 characters, it ends too early", Check.execute(run, full), -160);
    }

    private static void commandErrors() {
        PayrollRun run = new PayrollRun();
        check.same("41: first command", Check.execute(run, "salary 3 0 1"), -200);
        check.same("41: second command", Check.execute(run, "close;days 0 0 31;days 0 0 32"), -206);
        check.same("41: out of range by five digits", Check.execute(run, "cap 0 99999;floor 0 99999"), -212);
        check.same("41: none to drop", Check.execute(run, "fixed 0 1 1;drop 0 0;drop 0 0"), -221);
        check.same("41: full", Check.execute(run, "fixed 0 1 1;share 0 1 1;fixed 0 1 1;share 0 1 1"), -236);
        check.same("41: brackets not ascending", Check.execute(run, "bracket 5 1;bracket 5 1"), -212);
        check.same("41: no position to move to", Check.execute(run, "fixed 0 1 1;move 0 0 1"), -212);
        for (int i = 0; i < 11; i++) {
            run.closeMonth();
        }
        check.same("41: none to close", Check.execute(run, "close;close"), -206);
        check.same("41: the error in the text comes first", Check.execute(run, "salary 3 0 1;close "), -118);
        check.same("41: nothing was closed", run.closed(), 11);
    }

    private static void nothingHasAnEffect() {
        PayrollRun run = new PayrollRun();
        run.salary(0, 0, 1000);
        run.fixed(0, 10, 100);
        run.share(0, 10, 100);
        run.bracket(5, 100);
        run.closeMonth();
        run.days(0, 0, 10);
        String before = Check.state(run);
        String[] texts = {"salary 0 0 5;days 0 0 1;bonus 0 0 2;drop 0 3", "floor 0 7;rate 0 8;cap 0 9;rate 0 500",
            "bracket 70 8;bracket 80 9;bracket 80 9", "fixed 0 1 1;drop 0 0;move 0 0 1;move 0 0 2",
            "close;close;close;rate 2 0", "drop 0 0;drop 0 0;drop 0 0", "salary 0 0 7;close;closed"};
        for (String text : texts) {
            check.same("41: error of " + text, Check.execute(run, text) < -100 ? 1 : 0, 1);
            check.same("41: no effect of " + text, Check.state(run), before);
        }
        check.same("41: the changes before can be undone", run.undo(), 5);
        check.same("41: the latest was that of the days", run.data(0, 0, 1), 30);
    }

    private static void theBufferIsEmptyAfterwards() {
        PayrollRun run = new PayrollRun();
        Check.execute(run, "close");
        check.same("41: after commands", run.feed('c'), 1);
        run.execute();
        check.same("41: after an error of the text", run.feed('c'), 1);
        run.execute();
        Check.execute(run, "rate 2 2");
        check.same("41: after an error of a command", run.feed('c'), 1);
        Check.feed(run, "lose");
        run.closeMonth();
        run.save();
        run.restore();
        run.undo();
        run.newYear();
        check.same("41: other calls leave the buffer as it is", run.execute(), 1);
        check.same("41: and it is executed", run.closed(), 3);
        check.same("41: an empty one", run.execute(), -100);
    }

    private static void manyCommands() {
        PayrollRun run = new PayrollRun();
        String ten = "close;close;close;close;close;close;close;close;close;close";
        check.same("41: ten commands", Check.execute(run, ten), 10);
        check.same("41: ten months", run.closed(), 10);
        check.same("41: the third is one too many", Check.execute(run, "close;close;close"), -212);
        check.same("41: none was closed", run.closed(), 10);
        check.same("41: one change", run.undo(), 0);
        check.same("41: all at once", run.closed(), 0);
    }

    /** Texts made by a fixed sequence of numbers, against the pattern that Model has for commands. */
    private static void againstThePattern() {
        PayrollRun run = new PayrollRun();
        String[] parts = {"close", "salary", "days", "rate", "move", ";", ";", " ", " 1", " 0", " 23", " 12345", "6",
            "x", "clos", "~", "C", " 1 2 3", " 0 4", "fixed", "share 0 5 5", "drop", "cap", "bracket", "floor",
            "bonus"};
        long seed = 77;
        for (int n = 0; n < 60000; n++) {
            StringBuilder text = new StringBuilder();
            seed = seed * 6364136223846793005L + 1442695040888963407L;
            int count = (int) (seed >>> 60) % 9;
            for (int i = 0; i < count; i++) {
                seed = seed * 6364136223846793005L + 1442695040888963407L;
                text.append(parts[(int) ((seed >>> 33) % parts.length)]);
            }
            if (text.length() > 60) {
                text.setLength(60);
            }
            int error = Model.errorPosition(text.toString());
            int got = Check.execute(run, text.toString());
            if (error >= 0) {
                check.same("41: \"" + text + "\"", got, -100 - error);
            } else {
                check.same("41: no error of the text \"" + text + "\"", got > 0 || got <= -200 ? 1 : 0, 1);
            }
        }
    }
}
