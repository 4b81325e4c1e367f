/** Promises 34, 36, 38 and 39, sentence by sentence at the edges; their ranges are in RangesTest. */
public final class SumEdgesTest {
    private static final int BAD = PayrollRun.BAD;
    private static final int NONE = PayrollRun.NONE;
    private static final long UNIT = 1000000L;
    private static final Check check = new Check();

    public static void main(String[] args) {
        whatIsDescribed();
        noSlipAndTwelve();
        totalsAreOfLines();
        aTotalBelowNothing();
        owedAndCarryTogether();
        theGreatestSums();
        accountOfEachKind();
        accountFromTheFirstToTheLastMonth();
        anAccountBelowNothing();
        noneIsLowest();
        theEarliestOfSeveral();
        lowestByAMillionth();
        noCorrections();
        eachMonthAsABit();
        eachKindAlone();
        onlyKindsZeroToThree();
        check.end();
    }

    private static PayrollRun paid(int salary) {
        PayrollRun run = new PayrollRun();
        run.salary(0, 0, salary);
        return run;
    }

    private static void whatIsDescribed() {
        PayrollRun run = paid(100);
        run.setRate(0, 10);
        run.setRate(1, 20);
        run.bracket(0, 100);
        run.fixed(0, 5, 5);
        run.closeMonth();
        long[] want = {100 * UNIT, UNIT, 2 * UNIT, 9700000L, BAD, 5 * UNIT, BAD, 82300000L, 0, BAD, BAD};
        for (int what = 0; what < want.length; what++) {
            check.same("34: what " + what, run.total(0, what), want[what]);
        }
        check.same("34: what -1", run.total(0, -1), BAD);
        check.same("34: the smallest int", run.total(0, Integer.MIN_VALUE), BAD);
        check.same("34: the largest int", run.total(0, Integer.MAX_VALUE), BAD);
        check.same("34: both are wrong", run.total(3, 4), BAD);
    }

    private static void noSlipAndTwelve() {
        PayrollRun run = paid(100);
        for (int what : new int[] {0, 1, 2, 3, 5, 7, 8}) {
            check.same("34: no slip, what " + what, run.total(0, what), 0);
        }
        for (int m = 1; m <= 12; m++) {
            run.closeMonth();
            check.same("34: slips " + m, run.total(0, 7), 100 * m * UNIT);
        }
        run.undo();
        check.same("34: eleven again", run.total(0, 0), 1100 * UNIT);
        run.closeMonth();
        run.newYear();
        check.same("34: another year", run.total(0, 0), 0);
    }

    private static void totalsAreOfLines() {
        PayrollRun run = paid(100);
        run.setRate(0, 100);
        run.closeMonth();
        run.salary(0, 0, 200);
        check.same("34: what was closed", run.total(0, 0), 100 * UNIT);
        run.closeMonth();
        check.same("34: with the lines of its correction", run.total(0, 0), 400 * UNIT);
        check.same("34: social too", run.total(0, 1), 40 * UNIT);
        check.same("34: as in one run", run.total(0, 1), run.oneRun(0, 1));
    }

    private static void aTotalBelowNothing() {
        PayrollRun run = paid(100);
        run.setRate(0, 100);
        Check.closeAll(run);
        run.newYear();
        run.closeMonth();
        run.setRate(0, 0);
        run.closeMonth();
        check.same("34: all was given back", run.total(0, 1), 0);
        check.same("34: pay", run.total(0, 7), 200 * UNIT);
    }

    private static void owedAndCarryTogether() {
        PayrollRun run = paid(100);
        run.closeMonth();
        run.closeMonth();
        run.salary(0, 0, 0);
        run.closeMonth();
        check.same("34: 200 are carried", run.total(0, 8), 200 * UNIT);
        run.bonus(0, 3, 50);
        run.closeMonth();
        check.same("34: less 200, and 150 are carried", run.total(0, 8), 150 * UNIT);
        run.bonus(0, 4, 150);
        run.closeMonth();
        check.same("34: nothing any more", run.total(0, 8), 0);
        check.same("34: no pay was due", run.total(0, 7), 200 * UNIT);
        check.same("34: of another employee", run.total(1, 8), 0);
    }

    private static void theGreatestSums() {
        PayrollRun run = new PayrollRun();
        for (int e = 0; e < 3; e++) {
            run.salary(e, 0, 9999);
        }
        for (int m = 0; m < 12; m++) {
            for (int e = 0; e < 3; e++) {
                run.bonus(e, m, 9999);
            }
        }
        Check.closeAll(run);
        check.same("34: gross", run.total(2, 0), 239976 * UNIT);
        check.same("36: payouts", run.account(11, 4), 59994 * UNIT);
    }

    private static void accountOfEachKind() {
        PayrollRun run = paid(100);
        run.salary(1, 0, 1);
        run.salary(2, 0, 1000);
        run.setRate(0, 10);
        run.setRate(1, 20);
        run.bracket(0, 100);
        run.fixed(0, 5, 5);
        run.fixed(2, 7, 9);
        run.closeMonth();
        long[] want = {1101 * 97000L, 1101 * 10000L, 1101 * 20000L, 12 * UNIT, 1101 * 873000L - 12 * UNIT};
        for (int what = 0; what < 5; what++) {
            check.same("36: what " + what, run.account(0, what), want[what]);
        }
        check.same("36: what 5", run.account(0, 5), BAD);
        check.same("36: what -1", run.account(0, -1), BAD);
        check.same("36: what 5, month 12", run.account(12, 5), BAD);
    }

    private static void accountFromTheFirstToTheLastMonth() {
        PayrollRun run = paid(3);
        run.salary(2, 0, 4);
        for (int m = 0; m < 12; m++) {
            check.same("36: month " + m + " is not closed", run.account(m, 4), NONE);
            run.closeMonth();
            check.same("36: month " + m + " is closed", run.account(m, 4), 7 * UNIT);
            check.same("36: no tax", run.account(m, 0), 0);
        }
        run.undo();
        check.same("36: month 11 was undone", run.account(11, 0), NONE);
        check.same("36: month 10", run.account(10, 4), 7 * UNIT);
    }

    private static void anAccountBelowNothing() {
        PayrollRun run = paid(100);
        run.setRate(0, 100);
        run.closeMonth();
        run.closeMonth();
        run.setRate(0, 0);
        run.closeMonth();
        check.same("36: social is given back", run.account(2, 1), -20 * UNIT);
        check.same("36: and paid out", run.account(2, 4), 120 * UNIT);
    }

    private static void noneIsLowest() {
        PayrollRun run = paid(100);
        check.same("38: no month is closed", run.lowest(0), NONE);
        check.same("38: no such employee", run.lowest(3), BAD);
        run.closeMonth();
        check.same("38: the only one", run.lowest(0), 0);
        run.undo();
        check.same("38: none again", run.lowest(0), NONE);
    }

    private static void theEarliestOfSeveral() {
        PayrollRun run = paid(100);
        run.days(0, 4, 0);
        run.days(0, 7, 0);
        run.days(0, 11, 0);
        int[] want = {0, 0, 0, 0, 4, 4, 4, 4, 4, 4, 4, 4};
        for (int m = 0; m < 12; m++) {
            run.closeMonth();
            check.same("38: after month " + m, run.lowest(0), want[m]);
            check.same("38: all are equal", run.lowest(1), 0);
        }
        run = paid(100);
        run.days(0, 11, 29);
        Check.closeAll(run);
        check.same("38: the last one alone", run.lowest(0), 11);
    }

    private static void lowestByAMillionth() {
        PayrollRun run = paid(1);
        run.setRate(0, 499);
        run.setRate(1, 499);
        run.bracket(0, 999);
        run.share(0, 500, 1);
        run.days(0, 0, 0);
        run.bonus(0, 0, 2);
        run.closeMonth();
        run.closeMonth();
        check.same("29: two millionths", run.payout(0, 0), 2);
        check.same("29: one millionth", run.payout(0, 1), 1);
        check.same("38: is less", run.lowest(0), 1);
    }

    private static void noCorrections() {
        PayrollRun run = paid(100);
        run.closeMonth();
        check.same("39: the first month", run.corrections(0, 0), 0);
        run.closeMonth();
        check.same("39: nothing changed", run.corrections(0, 1), 0);
        check.same("39: not closed", run.corrections(0, 2), NONE);
        check.same("39: not closed, the last", run.corrections(0, 11), NONE);
        check.same("39: month 12", run.corrections(0, 12), BAD);
    }

    private static void eachMonthAsABit() {
        PayrollRun run = new PayrollRun();
        for (int m = 0; m < 11; m++) {
            run.closeMonth();
        }
        for (int m = 0; m < 11; m++) {
            run.bonus(0, m, 1);
            run.closeMonth();
            check.same("39: month " + m, run.corrections(0, 11), 1 << m);
            check.same("39: of this employee alone", run.corrections(1, 11), 0);
            run.undo();
            run.undo();
        }
        run.bonus(0, 0, 1);
        run.bonus(0, 10, 1);
        run.bonus(0, 11, 1);
        run.closeMonth();
        check.same("39: the first and the last but its own one", run.corrections(0, 11), 1025);
    }

    private static void eachKindAlone() {
        for (int kind = 0; kind < 4; kind++) {
            PayrollRun run = paid(100);
            run.closeMonth();
            run.closeMonth();
            int done = kind == 0 ? run.bonus(0, 0, 1) : kind == 1 ? run.setRate(0, 1) : kind == 2 ? run.setRate(1, 1)
                : run.bracket(0, 1);
            check.same("39: set", done >= 0 ? 1 : 0, 1);
            run.closeMonth();
            check.same("26: a line of kind " + kind, run.line(0, 2, 4, 0), kind);
            check.same("39: a line of kind " + kind + " alone", run.corrections(0, 2), kind == 0 ? 1 : 3);
        }
    }

    private static void onlyKindsZeroToThree() {
        PayrollRun run = paid(100);
        run.fixed(0, 1, 99999);
        run.fixed(0, 1, 99999);
        run.fixed(0, 1, 99999);
        run.closeMonth();
        run.closeMonth();
        check.same("39: garnish lines have indexes too", run.corrections(0, 1), 0);
        run.days(0, 0, 0);
        run.days(0, 2, 0);
        run.closeMonth();
        check.same("39: month 0, and something is carried", run.corrections(0, 2), 1);
        run.days(0, 3, 0);
        run.closeMonth();
        check.same("39: owed and carry are none", run.corrections(0, 3), 0);
        run.setRate(0, 10);
        run.closeMonth();
        check.same("39: social, where something was due", run.corrections(0, 4), 2);
    }
}
