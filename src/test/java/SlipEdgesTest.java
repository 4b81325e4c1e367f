/** Promises 25 to 29 and 37, sentence by sentence at the edges; their ranges are in RangesTest. */
public final class SlipEdgesTest {
    private static final int BAD = PayrollRun.BAD;
    private static final int NONE = PayrollRun.NONE;
    private static final long UNIT = 1000000L;
    private static final Check check = new Check();

    public static void main(String[] args) {
        fiveLinesAtLeast();
        fiftyFourLinesAtMost();
        previewOfTheLongest();
        theFirstAndTheLastLine();
        noSuchLine();
        badComesBeforeNone();
        theFirstAndTheLastLetter();
        everyNameOfAKind();
        numbersAsText();
        theLowestPayout();
        slipsStayAsTheyAre();
        slipsAreGone();
        statementLetters();
        statementOfNoneAndAllMonths();
        statementReasonOfEachKind();
        check.end();
    }

    private static PayrollRun paid(int salary) {
        PayrollRun run = new PayrollRun();
        run.salary(0, 0, salary);
        return run;
    }

    private static void fiveLinesAtLeast() {
        PayrollRun run = new PayrollRun();
        run.closeMonth();
        for (int e = 0; e < 3; e++) {
            check.same("25: the four due amounts and the payout", run.lineCount(e, 0), 5);
            for (int i = 0; i < 5; i++) {
                check.same("26: kind of line " + i, run.line(e, 0, i, 0), i < 4 ? i : 7);
                check.same("26: index of line " + i, run.line(e, 0, i, 1), 0);
                check.same("26: reason of line " + i, run.line(e, 0, i, 2), 0);
                check.same("27: amount of line " + i, run.amount(e, 0, i), 0);
            }
        }
    }

    /** Eleven months are closed with something owed; then all of them are to be corrected, and three garnished. */
    private static PayrollRun beforeTheLongest() {
        PayrollRun run = paid(1000);
        run.setFloor(0, 100);
        run.setRate(0, 10);
        run.setRate(1, 10);
        run.bracket(0, 10);
        for (int m = 0; m < 10; m++) {
            run.closeMonth();
        }
        run.days(0, 0, 0);
        run.days(0, 1, 0);
        run.closeMonth();
        for (int m = 0; m < 11; m++) {
            run.days(0, m, 15);
        }
        run.setRate(0, 30);
        run.setRate(1, 30);
        run.clearBrackets();
        run.bracket(0, 100);
        run.fixed(0, 1, 1);
        run.share(0, 1, 1);
        run.fixed(0, 1, 1);
        return run;
    }

    private static PayrollRun longest() {
        PayrollRun run = beforeTheLongest();
        run.closeMonth();
        return run;
    }

    private static void previewOfTheLongest() {
        PayrollRun run = beforeTheLongest();
        long paid = run.total(0, 7);
        long preview = run.preview(0);
        check.same("30: again the same", run.preview(0), preview);
        check.same("31: a unit more is less to owe", run.marginal(0), 0);
        check.same("33: with it", run.projected(0), paid + preview);
        run.closeMonth();
        check.same("30: all lines", run.lineCount(0, 11), 54);
        check.same("30: their payout", run.payout(0, 11), preview);
    }

    private static void fiftyFourLinesAtMost() {
        PayrollRun run = longest();
        check.same("25: something was owed before", run.line(0, 11, 48, 0), 4);
        check.same("25: something is owed from now on", run.line(0, 11, 52, 0), 6);
        check.same("25: all that a slip can have", run.lineCount(0, 11), 54);
        for (int i = 0; i < 48; i++) {
            int month = i < 4 ? 11 : i / 4 - 1;
            check.same("26: kind of line " + i, run.line(0, 11, i, 0), i % 4);
            check.same("26: month of line " + i, run.line(0, 11, i, 1), month);
        }
        for (int i = 0; i < 3; i++) {
            check.same("26: garnishment " + i, run.line(0, 11, 49 + i, 0) * 10 + run.line(0, 11, 49 + i, 1), 50 + i);
        }
        check.same("26: the last line", run.line(0, 11, 53, 0), 7);
        check.same("27: the last line is the payout", run.amount(0, 11, 53), run.payout(0, 11));
        check.same("26: no line 54", run.line(0, 11, 54, 0), NONE);
        check.same("27: no line 54", run.amount(0, 11, 54), Long.MIN_VALUE);
        long sum = 0;
        for (int i = 0; i < 53; i++) {
            sum += run.amount(0, 11, i);
        }
        check.same("29: the sum of all lines before", run.payout(0, 11), sum);
    }

    private static void theFirstAndTheLastLine() {
        PayrollRun run = paid(8);
        run.closeMonth();
        check.same("26: the first", run.line(0, 0, 0, 0), 0);
        check.same("26: the last", run.line(0, 0, 4, 0), 7);
        check.same("27: the first", run.amount(0, 0, 0), 8 * UNIT);
        check.same("27: the last", run.amount(0, 0, 4), 8 * UNIT);
    }

    private static void noSuchLine() {
        PayrollRun run = paid(8);
        run.closeMonth();
        int[] lines = {Integer.MIN_VALUE, -2, -1, 5, 6, 53, 54, Integer.MAX_VALUE};
        for (int i : lines) {
            for (int what = 0; what < 3; what++) {
                check.same("26: line " + i, run.line(0, 0, i, what), NONE);
            }
            check.same("27: line " + i, run.amount(0, 0, i), Long.MIN_VALUE);
        }
    }

    private static void badComesBeforeNone() {
        PayrollRun run = paid(8);
        run.closeMonth();
        check.same("22: kind 5, not closed", run.settled(0, 1, 5), BAD);
        check.same("25: employee 3, not closed", run.lineCount(3, 1), BAD);
        check.same("26: what 3, no such line", run.line(0, 0, 5, 3), BAD);
        check.same("26: what -1, not closed", run.line(0, 1, 0, -1), BAD);
        check.same("26: employee 3, no such line", run.line(3, 0, -1, 0), BAD);
        check.same("26: month 12, no such line", run.line(0, 12, 5, 0), BAD);
        check.same("28: employee -1, no such position", run.letter(-1, 0, -2), BAD);
        check.same("28: month 12, no such position", run.letter(0, 12, -2), BAD);
        check.same("29: employee 3, not closed", run.payout(3, 1), BAD);
        check.same("36: what 5, not closed", run.account(1, 5), BAD);
        check.same("37: employee 3, no such position", run.statement(3, -2), BAD);
        check.same("38: employee 3, no month is closed", new PayrollRun().lowest(3), BAD);
        check.same("39: employee 3, not closed", run.corrections(3, 1), BAD);
        check.same("39: month 12", run.corrections(0, 12), BAD);
    }

    private static void theFirstAndTheLastLetter() {
        PayrollRun run = paid(8);
        run.closeMonth();
        String text = "gross 0 0 8000000;social 0 0 0;health 0 0 0;tax 0 0 0;pay 0 0 8000000;";
        int length = text.length();
        check.same("28: the length", run.letter(0, 0, -1), length);
        check.same("28: the first", run.letter(0, 0, 0), 'g');
        check.same("28: the last", run.letter(0, 0, length - 1), ';');
        check.same("28: the one before", run.letter(0, 0, length - 2), '0');
        check.same("28: behind the last", run.letter(0, 0, length), NONE);
        check.same("28: position -2", run.letter(0, 0, -2), NONE);
        check.same("28: the smallest int", run.letter(0, 0, Integer.MIN_VALUE), NONE);
        check.same("28: the largest int", run.letter(0, 0, Integer.MAX_VALUE), NONE);
        check.same("28: the text", Check.slip(run, 0, 0), text);
        check.same("28: not closed", run.letter(0, 1, -1), NONE);
        check.same("28: not closed, the first", run.letter(0, 1, 0), NONE);
        check.same("28: the last month, not closed", run.letter(0, 11, 0), NONE);
    }

    private static void everyNameOfAKind() {
        PayrollRun run = longest();
        String text = "";
        for (int i = 0; i < run.letter(0, 11, -1) && i < 350; i++) {
            text += (char) run.letter(0, 11, i);
        }
        check.same("28: gross, social, health and tax", text.startsWith("gross 11 0 1000000000;social 11 0 -30000000;"
            + "health 11 0 -30000000;tax 11 0 -94000000;gross 0 3 500000000;social 0 3 -15000000;") ? 1 : 0, 1);
        run = longest();
        int length = run.letter(0, 11, -1);
        text = "";
        for (int i = length - 150; i < length; i++) {
            text += (char) run.letter(0, 11, i);
        }
        String last = text.substring(text.indexOf("owed")).replaceAll("[0-9]{7,}", "N");
        check.same("28: owed, garnish, carry and pay", last,
            "owed 0 0 -N;garnish 0 3 0;garnish 1 1 0;garnish 2 3 0;carry 0 0 N;pay 0 0 N;");
    }

    private static void numbersAsText() {
        PayrollRun run = paid(1);
        run.setRate(0, 499);
        run.setRate(1, 499);
        run.bracket(0, 999);
        run.closeMonth();
        check.same("28: four digits, and one", Check.slip(run, 0, 0), "gross 0 0 1000000;social 0 0 -499000;"
            + "health 0 0 -499000;tax 0 0 -1998;pay 0 0 2;");
        run = paid(9999);
        run.bonus(0, 0, 9999);
        run.share(0, 1000, 99999);
        run.closeMonth();
        check.same("28: eleven digits, and nothing", Check.slip(run, 0, 0), "gross 0 0 19998000000;social 0 0 0;"
            + "health 0 0 0;tax 0 0 0;garnish 0 1 -19998000000;pay 0 0 0;");
        run = paid(9999);
        for (int m = 0; m < 11; m++) {
            run.bonus(0, m, 9999);
            run.closeMonth();
        }
        run.salary(0, 0, 0);
        for (int m = 0; m < 11; m++) {
            run.bonus(0, m, 0);
        }
        run.closeMonth();
        int last = run.lineCount(0, 11) - 2;
        check.same("27: twelve digits are carried", run.amount(0, 11, last), 219978000000L);
        check.same("24: and owed", run.owed(0), 219978000000L);
        int length = run.letter(0, 11, -1);
        String want = ";carry 0 0 219978000000;pay 0 0 0;";
        for (int i = 0; i < want.length(); i++) {
            check.same("28: their text", run.letter(0, 11, length - want.length() + i), want.charAt(i));
        }
    }

    private static void theLowestPayout() {
        PayrollRun run = paid(9);
        check.same("29: not closed", run.payout(0, 0), NONE);
        run.closeMonth();
        run.days(0, 1, 0);
        run.closeMonth();
        check.same("29: a payout of nothing", run.payout(0, 1), 0);
        check.same("29: of the first month", run.payout(0, 0), 9 * UNIT);
        check.same("29: the next month", run.payout(0, 2), NONE);
        check.same("29: the last month", run.payout(0, 11), NONE);
        Check.closeAll(run);
        check.same("29: the last month is closed", run.payout(0, 11), 9 * UNIT);
        check.same("29: month 12", run.payout(0, 12), BAD);
    }

    private static void slipsStayAsTheyAre() {
        PayrollRun run = paid(9);
        run.fixed(0, 1, 2);
        run.closeMonth();
        String slip = Check.slip(run, 0, 0);
        run.salary(0, 0, 9999);
        run.setRate(0, 499);
        run.bracket(0, 999);
        run.dropGarnishment(0, 0);
        run.setFloor(0, 9999);
        run.closeMonth();
        check.same("28: a slip does not follow what is set", Check.slip(run, 0, 0), slip);
        run.undo();
        check.same("28: nor what is undone", Check.slip(run, 0, 0), slip);
    }

    private static void slipsAreGone() {
        PayrollRun run = paid(9);
        run.closeMonth();
        run.undo();
        check.same("44: a slip that was undone", run.lineCount(0, 0), NONE);
        check.same("44: its lines", run.line(0, 0, 0, 0), NONE);
        check.same("44: its amounts", run.amount(0, 0, 0), Long.MIN_VALUE);
        check.same("44: its text", run.letter(0, 0, -1), NONE);
        check.same("44: its payout", run.payout(0, 0), NONE);
        Check.closeAll(run);
        run.newYear();
        for (int m = 0; m < 12; m++) {
            check.same("15: slips are gone", run.lineCount(0, m), NONE);
        }
        run.undo();
        for (int m = 0; m < 12; m++) {
            check.same("44: and come back", run.payout(0, m), 9 * UNIT);
        }
    }

    private static void statementLetters() {
        PayrollRun run = new PayrollRun();
        String text = "gross 0 0 0;social 0 0 0;health 0 0 0;tax 0 0 0;garnish 0 0 0;carry 0 0 0;pay 0 0 0;";
        int length = text.length();
        check.same("37: the length", run.statement(2, -1), length);
        for (int i = 0; i < length; i++) {
            check.same("37: letter " + i, run.statement(2, i), text.charAt(i));
        }
        check.same("37: behind the last", run.statement(2, length), NONE);
        check.same("37: position -2", run.statement(2, -2), NONE);
        check.same("37: the smallest int", run.statement(2, Integer.MIN_VALUE), NONE);
        check.same("37: the largest int", run.statement(2, Integer.MAX_VALUE), NONE);
    }

    private static void statementOfNoneAndAllMonths() {
        PayrollRun run = paid(9);
        run.setRate(0, 100);
        run.fixed(0, 1, 12);
        for (int m = 0; m <= 12; m++) {
            String index = " " + m + " 0 ";
            check.same("37: " + m + " months", Check.statement(run, 0), "gross" + index + m * 9000000L + ";social"
                + index + m * 900000L + ";health" + index + "0;tax" + index + "0;garnish" + index + m * UNIT
                + ";carry" + index + "0;pay" + index + m * 7100000L + ";");
            PayrollRun next = paid(9);
            next.setRate(0, 100);
            next.fixed(0, 1, 12);
            for (int i = 0; i <= m; i++) {
                next.closeMonth();
            }
            run = next;
        }
    }

    /** A line of the first four differs from the single run where something was not settled yet. */
    private static void statementReasonOfEachKind() {
        String[] changes = {"bonus 0 0 1", "rate 0 1", "rate 1 1", "bracket 0 1", "bonus 0 1 1"};
        String[] reasons = {"1000", "0100", "0010", "0001", "0000"};
        for (int i = 0; i < changes.length; i++) {
            PayrollRun run = paid(9);
            run.closeMonth();
            Check.execute(run, changes[i]);
            String[] lines = Check.statement(run, 0).split(";");
            StringBuilder got = new StringBuilder();
            for (int kind = 0; kind < 4; kind++) {
                got.append(lines[kind].split(" ")[2]);
            }
            check.same("37: reasons after " + changes[i], got.toString(), reasons[i]);
            check.same("37: none for garnish, carry and pay",
                lines[4].split(" ")[2] + lines[5].split(" ")[2] + lines[6].split(" ")[2], "000");
        }
    }
}
