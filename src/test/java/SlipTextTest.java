/** Promises 25 to 29 and 37: slips line by line, their text, and the yearly statement. */
public final class SlipTextTest {
    private static final Check check = new Check();

    public static void main(String[] args) {
        lineCount();
        line();
        amount();
        letter();
        longestSlip();
        payout();
        statement();
        statementReasons();
        check.end();
    }

    /** Slip 0: 1000 gross, 100 social. Slip 1: 500 less for month 0, so 400 are carried above a floor of 900. */
    private static PayrollRun two() {
        PayrollRun run = new PayrollRun();
        run.salary(1, 0, 1000);
        run.setRate(0, 100);
        run.closeMonth();
        run.setFloor(1, 900);
        run.days(1, 0, 15);
        run.fixed(1, 50, 60);
        run.closeMonth();
        return run;
    }

    private static void lineCount() {
        PayrollRun run = two();
        check.same("25: month 0", run.lineCount(1, 0), 5);
        check.same("25: month 1", run.lineCount(1, 1), 9);
        check.same("25: not closed", run.lineCount(1, 2), PayrollRun.NONE);
        check.same("25: last month", run.lineCount(1, 11), PayrollRun.NONE);
        check.same("25: month 12", run.lineCount(1, 12), PayrollRun.BAD);
        check.same("25: month -1", run.lineCount(1, -1), PayrollRun.BAD);
        check.same("25: employee -1", run.lineCount(-1, 0), PayrollRun.BAD);
        check.same("25: employee 3", run.lineCount(3, 0), PayrollRun.BAD);
        check.same("25: employee 3, not closed", run.lineCount(3, 5), PayrollRun.BAD);
    }

    private static void line() {
        PayrollRun run = two();
        int[][] want = {{0, 1, 0}, {1, 1, 0}, {2, 1, 0}, {3, 1, 0}, {0, 0, 3}, {1, 0, 3}, {5, 0, 3}, {6, 0, 0},
            {7, 0, 0}};
        for (int i = 0; i < want.length; i++) {
            for (int what = 0; what < 3; what++) {
                check.same("26: line " + i + " what " + what, run.line(1, 1, i, what), want[i][what]);
            }
        }
        check.same("26: line 9", run.line(1, 1, 9, 0), PayrollRun.NONE);
        check.same("26: line -1", run.line(1, 1, -1, 0), PayrollRun.NONE);
        check.same("26: far line", run.line(1, 1, Integer.MAX_VALUE, 0), PayrollRun.NONE);
        check.same("26: not closed", run.line(1, 2, 0, 0), PayrollRun.NONE);
        check.same("26: what 3", run.line(1, 1, 0, 3), PayrollRun.BAD);
        check.same("26: what -1", run.line(1, 1, 0, -1), PayrollRun.BAD);
        check.same("26: what 3, no such line", run.line(1, 1, 9, 3), PayrollRun.BAD);
        check.same("26: what 3, not closed", run.line(1, 2, 0, 3), PayrollRun.BAD);
        check.same("26: month 12", run.line(1, 12, 0, 0), PayrollRun.BAD);
        check.same("26: month -1", run.line(1, -1, 0, 0), PayrollRun.BAD);
        check.same("26: employee -1", run.line(-1, 0, 0, 0), PayrollRun.BAD);
        check.same("26: employee 3", run.line(3, 0, 0, 0), PayrollRun.BAD);
    }

    private static void amount() {
        PayrollRun run = two();
        long[] want = {1000000000L, -100000000L, 0, 0, -500000000L, 50000000L, 0, 450000000L, 900000000L};
        for (int i = 0; i < want.length; i++) {
            check.same("27: line " + i, run.amount(1, 1, i), want[i]);
        }
        check.same("27: line 9", run.amount(1, 1, 9), Long.MIN_VALUE);
        check.same("27: line -1", run.amount(1, 1, -1), Long.MIN_VALUE);
        check.same("27: not closed", run.amount(1, 2, 0), Long.MIN_VALUE);
        check.same("27: month 12", run.amount(1, 12, 0), Long.MIN_VALUE);
        check.same("27: month -1", run.amount(1, -1, 0), Long.MIN_VALUE);
        check.same("27: employee -1", run.amount(-1, 0, 0), Long.MIN_VALUE);
        check.same("27: employee 3", run.amount(3, 0, 0), Long.MIN_VALUE);
    }

    private static void letter() {
        PayrollRun run = two();
        String text = "gross 1 0 1000000000;social 1 0 -100000000;health 1 0 0;tax 1 0 0;gross 0 3 -500000000;"
            + "social 0 3 50000000;garnish 0 3 0;carry 0 0 450000000;pay 0 0 900000000;";
        check.same("28: length", run.letter(1, 1, -1), text.length());
        for (int i = 0; i < text.length(); i++) {
            check.same("28: letter " + i, run.letter(1, 1, i), text.charAt(i));
        }
        check.same("28: behind the end", run.letter(1, 1, text.length()), PayrollRun.NONE);
        check.same("28: position -2", run.letter(1, 1, -2), PayrollRun.NONE);
        check.same("28: far position", run.letter(1, 1, Integer.MAX_VALUE), PayrollRun.NONE);
        check.same("28: not closed", run.letter(1, 2, -1), PayrollRun.NONE);
        check.same("28: month 12", run.letter(1, 12, -1), PayrollRun.BAD);
        check.same("28: month -1", run.letter(1, -1, -1), PayrollRun.BAD);
        check.same("28: employee -1", run.letter(-1, 0, -1), PayrollRun.BAD);
        check.same("28: employee 3", run.letter(3, 0, -1), PayrollRun.BAD);
        run.closeMonth();
        check.same("28: owed", Check.slip(run, 1, 2), "gross 2 0 1000000000;social 2 0 -100000000;health 2 0 0;"
            + "tax 2 0 0;owed 0 0 -450000000;garnish 0 3 0;carry 0 0 450000000;pay 0 0 900000000;");
        check.same("28: of another employee", Check.slip(run, 0, 2),
            "gross 2 0 0;social 2 0 0;health 2 0 0;tax 2 0 0;pay 0 0 0;");
    }

    /** All lines that a slip can have: 4 for each month, owed, three garnishments, carry and pay. */
    private static void longestSlip() {
        PayrollRun run = new PayrollRun();
        run.salary(0, 0, 9999);
        run.setFloor(0, 5000);
        run.setRate(0, 10);
        run.setRate(1, 10);
        run.bracket(0, 10);
        for (int i = 0; i < 10; i++) {
            run.closeMonth();
        }
        run.days(0, 0, 0);
        run.closeMonth();
        check.same("24: owes already", run.owed(0) > 0 ? 1 : 0, 1);
        run.setRate(0, 490);
        run.setRate(1, 490);
        run.clearBrackets();
        run.bracket(0, 900);
        run.fixed(0, 1, 1);
        run.fixed(0, 1, 1);
        run.share(0, 1, 1);
        run.salary(0, 0, 100);
        run.salary(0, 11, 9999);
        run.days(0, 0, 30);
        long preview = run.preview(0);
        check.same("30: again", run.preview(0), preview);
        check.same("33: the last month", run.projected(0), run.total(0, 7) + preview);
        run.closeMonth();
        check.same("30: all lines", run.payout(0, 11), preview);
        check.same("25: all lines", run.lineCount(0, 11), 54);
        check.same("26: first correction", run.line(0, 11, 4, 1), 0);
        check.same("26: last correction", run.line(0, 11, 47, 1), 10);
        check.same("26: owed", run.line(0, 11, 48, 0), 4);
        check.same("26: carry", run.line(0, 11, 52, 0), 6);
        check.same("26: pay", run.line(0, 11, 53, 0), 7);
        check.same("39: all earlier months", run.corrections(0, 11), 2047);
        String text = Check.slip(run, 0, 11);
        check.same("28: lines in the text", text.split(";").length, 54);
        check.same("28: two digits", text.contains(";gross 10 2 -9899000000;") ? 1 : 0, 1);
    }

    private static void payout() {
        PayrollRun run = two();
        check.same("29: month 0", run.payout(1, 0), 900000000L);
        check.same("29: month 1", run.payout(1, 1), 900000000L);
        check.same("29: other employee", run.payout(0, 1), 0);
        check.same("29: not closed", run.payout(1, 2), PayrollRun.NONE);
        check.same("29: month 12", run.payout(1, 12), PayrollRun.BAD);
        check.same("29: month -1", run.payout(1, -1), PayrollRun.BAD);
        check.same("29: employee -1", run.payout(-1, 0), PayrollRun.BAD);
        check.same("29: employee 3", run.payout(3, 0), PayrollRun.BAD);
        run.setFloor(1, 100);
        run.closeMonth();
        check.same("29: less what is owed and garnished", run.payout(1, 2), 400000000L);
    }

    private static void statement() {
        PayrollRun run = new PayrollRun();
        check.same("37: nothing closed", Check.statement(run, 2), "gross 0 0 0;social 0 0 0;health 0 0 0;tax 0 0 0;"
            + "garnish 0 0 0;carry 0 0 0;pay 0 0 0;");
        run = two();
        String text = "gross 2 0 1500000000;social 2 0 150000000;health 2 0 0;tax 2 0 0;garnish 2 0 0;"
            + "carry 2 0 450000000;pay 2 0 1800000000;";
        check.same("37: two months", Check.statement(run, 1), text);
        check.same("37: length", run.statement(1, -1), text.length());
        check.same("37: behind the end", run.statement(1, text.length()), PayrollRun.NONE);
        check.same("37: position -2", run.statement(1, -2), PayrollRun.NONE);
        check.same("37: far position", run.statement(1, Integer.MAX_VALUE), PayrollRun.NONE);
        check.same("37: employee -1", run.statement(-1, 0), PayrollRun.BAD);
        check.same("37: employee 3", run.statement(3, 0), PayrollRun.BAD);
        Check.closeAll(run);
        check.same("37: twelve months", Check.statement(run, 1), "gross 12 0 11500000000;social 12 0 1150000000;"
            + "health 12 0 0;tax 12 0 0;garnish 12 0 0;carry 12 0 450000000;pay 12 0 10800000000;");
    }

    private static void statementReasons() {
        PayrollRun run = two();
        run.bonus(1, 0, 10);
        check.same("37: gross and social are not those of one run", Check.statement(run, 1),
            "gross 2 1 1500000000;social 2 1 150000000;health 2 0 0;tax 2 0 0;garnish 2 0 0;"
            + "carry 2 0 450000000;pay 2 0 1800000000;");
        run.bonus(1, 0, 0);
        run.setRate(1, 1);
        check.same("37: health", Check.statement(run, 1).substring(42, 57), "health 2 1 0;ta");
        run.setRate(1, 0);
        run.bracket(100, 1);
        check.same("37: tax", Check.statement(run, 1).substring(42, 65), "health 2 0 0;tax 2 1 0;");
        run.setFloor(1, 0);
        run.closeMonth();
        check.same("37: settled, garnish and carry", Check.statement(run, 1), "gross 3 0 2500000000;"
            + "social 3 0 250000000;health 3 0 0;tax 3 0 2150000;garnish 3 0 50000000;carry 3 0 0;"
            + "pay 3 0 2197850000;");
        run.newYear();
        Check.closeAll(run);
        run.days(1, 11, 0);
        run.days(1, 10, 0);
        run.newYear();
        run.closeMonth();
        check.same("37: a year later", Check.statement(run, 0), "gross 1 0 0;social 1 0 0;health 1 0 0;tax 1 0 0;"
            + "garnish 1 0 0;carry 1 0 0;pay 1 0 0;");
    }
}
