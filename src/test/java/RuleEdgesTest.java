/** Promises 6 to 9, 18, 21 and 35, sentence by sentence at the edges; their ranges are in RangesTest. */
public final class RuleEdgesTest {
    private static final int BAD = PayrollRun.BAD;
    private static final int FULL = PayrollRun.FULL;
    private static final long UNIT = 1000000L;
    private static final Check check = new Check();

    public static void main(String[] args) {
        theLeastAndTheGreatestRate();
        theLesserOneOfSumAndCap();
        theCapIsCarriedOverMonths();
        theGreatestCapIsReached();
        bothRatesAtTheGreatest();
        theSmallestAmounts();
        noBracketAndFive();
        theSixthBracket();
        greaterThanTheLastThreshold();
        badComesBeforeFull();
        clearingNoneAndFive();
        theThresholdItself();
        thePartUpToTheNextThreshold();
        theGreatestThreshold();
        bracketRatesOfNothingAndTheGreatest();
        theFirstAndTheLastMonth();
        dueFollowsThePresent();
        oneRunOverNoneAndAllMonths();
        settingsOfWhatIsThere();
        check.end();
    }

    private static PayrollRun paid(int salary) {
        PayrollRun run = new PayrollRun();
        run.salary(0, 0, salary);
        return run;
    }

    private static void theLeastAndTheGreatestRate() {
        PayrollRun run = paid(1000);
        check.same("6: initially 0", run.setRate(0, 499), 0);
        check.same("21: at 499", run.due(0, 0, 1), 499 * UNIT);
        check.same("21: health has its own rate", run.due(0, 0, 2), 0);
        check.same("6: 499 was set", run.setRate(0, 0), 499);
        check.same("21: at 0", run.due(0, 0, 1), 0);
        check.same("6: health", run.setRate(1, 1), 0);
        check.same("21: at 1", run.due(0, 0, 2), UNIT);
    }

    private static void theLesserOneOfSumAndCap() {
        PayrollRun run = paid(1000);
        run.setRate(1, 100);
        int[][] cases = {{0, 0}, {1, 1}, {999, 999}, {1000, 1000}, {1001, 1000}, {99999, 1000}};
        for (int[] c : cases) {
            run.setCap(1, c[0]);
            check.same("21: health with cap " + c[0], run.due(0, 0, 2), c[1] * UNIT / 10);
            check.same("21: social has its own cap", run.due(0, 0, 1), 0);
        }
    }

    private static void theCapIsCarriedOverMonths() {
        int[][] cases = {{1999, 999}, {2000, 1000}, {2001, 1000}, {1000, 0}, {1001, 1}};
        for (int[] c : cases) {
            PayrollRun run = paid(1000);
            run.setRate(0, 100);
            run.setCap(0, c[0]);
            check.same("21: month 0 with cap " + c[0], run.due(0, 0, 1), 100 * UNIT);
            check.same("21: month 1 with cap " + c[0], run.due(0, 1, 1), c[1] * UNIT / 10);
        }
        PayrollRun run = paid(1000);
        run.setRate(0, 100);
        run.setCap(0, 2001);
        check.same("21: one unit in month 2", run.due(0, 2, 1), UNIT / 10);
        check.same("21: none in month 3", run.due(0, 3, 1), 0);
    }

    private static void theGreatestCapIsReached() {
        PayrollRun run = paid(9999);
        for (int m = 0; m < 12; m++) {
            run.bonus(0, m, 9999);
        }
        run.setRate(0, 499);
        check.same("21: below 99999", run.due(0, 4, 1), 19998 * UNIT * 499 / 1000);
        check.same("21: 9 units up to 99999", run.due(0, 5, 1), 9 * UNIT * 499 / 1000);
        check.same("21: above 99999", run.due(0, 6, 1), 0);
    }

    private static void bothRatesAtTheGreatest() {
        PayrollRun run = paid(1000);
        run.setRate(0, 499);
        run.setRate(1, 499);
        check.same("21: the taxable part is what is left", run.due(0, 0, 4), 2 * UNIT);
        run.bracket(0, 999);
        check.same("21: tax on 2 units", run.due(0, 0, 3), 1998000L);
        check.same("21: net", run.due(0, 0, 4), 2000L);
    }

    private static void theSmallestAmounts() {
        PayrollRun run = paid(1);
        run.setRate(0, 499);
        run.setRate(1, 499);
        run.bracket(0, 999);
        check.same("21: 2 thousandths are taxable", run.due(0, 0, 3), 1998L);
        check.same("21: 2 millionths are left", run.due(0, 0, 4), 2L);
        run.clearBrackets();
        run.bracket(0, 1);
        check.same("21: a thousandth of them", run.due(0, 0, 3), 2L);
    }

    private static void noBracketAndFive() {
        PayrollRun run = paid(50);
        check.same("21: no bracket, no tax", run.due(0, 0, 3), 0);
        for (int i = 0; i < 5; i++) {
            check.same("8: bracket " + i, run.bracket(10 * i, 100 * (i + 1)), i + 1);
        }
        check.same("18: five", run.setting(5, 0), 5);
        check.same("21: 10 units in each", run.due(0, 0, 3), 15 * UNIT);
        run.salary(0, 0, 40);
        check.same("21: at the fifth threshold", run.due(0, 0, 3), 10 * UNIT);
        run.salary(0, 0, 41);
        check.same("21: a unit above it", run.due(0, 0, 3), 10 * UNIT + UNIT / 2);
    }

    private static void theSixthBracket() {
        PayrollRun run = paid(100);
        for (int i = 0; i < 5; i++) {
            run.bracket(i, 1);
        }
        long tax = run.due(0, 0, 3);
        check.same("8: the sixth", run.bracket(5, 999), FULL);
        check.same("8: the sixth at the greatest threshold", run.bracket(99999, 0), FULL);
        check.same("8: five remain", run.setting(5, 0), 5);
        check.same("8: the fifth remains", run.setting(3, 4) * 10 + run.setting(4, 4), 41);
        check.same("8: the tax remains", run.due(0, 0, 3), tax);
        run.undo();
        check.same("8: the sixth was no change", run.setting(5, 0), 4);
        check.same("8: the fifth again", run.bracket(5, 2), 5);
    }

    private static void greaterThanTheLastThreshold() {
        PayrollRun run = new PayrollRun();
        check.same("8: the first may be 0", run.bracket(0, 5), 1);
        check.same("8: 0 is not greater than 0", run.bracket(0, 5), BAD);
        check.same("8: 1 is", run.bracket(1, 5), 2);
        check.same("8: the last one counts", run.bracket(99998, 5), 3);
        check.same("8: less than the last", run.bracket(99997, 5), BAD);
        check.same("8: the same as the last", run.bracket(99998, 5), BAD);
        check.same("8: the greatest", run.bracket(99999, 5), 4);
        check.same("8: nothing is greater", run.bracket(99999, 5), BAD);
        check.same("8: nor allowed", run.bracket(100000, 5), BAD);
        check.same("8: a rate of a later one may be less", run.clearBrackets() + run.bracket(7, 999), 5);
        check.same("8: even 0", run.bracket(8, 0), 2);
    }

    private static void badComesBeforeFull() {
        PayrollRun run = new PayrollRun();
        for (int i = 1; i <= 5; i++) {
            run.bracket(10 * i, 1);
        }
        check.same("8: full", run.bracket(51, 1), FULL);
        check.same("8: not greater", run.bracket(50, 1), BAD);
        check.same("8: between the others", run.bracket(15, 1), BAD);
        check.same("8: threshold -1", run.bracket(-1, 1), BAD);
        check.same("8: threshold 100000", run.bracket(100000, 1), BAD);
        check.same("8: rate -1", run.bracket(51, -1), BAD);
        check.same("8: rate 1000", run.bracket(51, 1000), BAD);
        check.same("8: the greatest int", run.bracket(Integer.MAX_VALUE, Integer.MAX_VALUE), BAD);
        check.same("8: the smallest int", run.bracket(Integer.MIN_VALUE, Integer.MIN_VALUE), BAD);
    }

    private static void clearingNoneAndFive() {
        PayrollRun run = new PayrollRun();
        check.same("9: none", run.clearBrackets(), 0);
        check.same("9: it is a change", run.undo(), 0);
        for (int i = 0; i < 5; i++) {
            run.bracket(10 * i + 3, 7 - i);
        }
        check.same("9: five", run.clearBrackets(), 5);
        check.same("9: none is left", run.setting(5, 0), 0);
        check.same("9: no threshold is left", run.setting(3, 0), BAD);
        check.same("9: no rate is left", run.setting(4, 4), BAD);
        check.same("9: a lesser threshold is the first", run.bracket(0, 1), 1);
        run.undo();
        run.undo();
        check.same("44: five again", run.setting(5, 0), 5);
        for (int i = 0; i < 5; i++) {
            check.same("44: threshold " + i, run.setting(3, i), 10 * i + 3);
            check.same("44: rate " + i, run.setting(4, i), 7 - i);
        }
    }

    private static void theThresholdItself() {
        int[][] cases = {{999, 0}, {1000, 0}, {1001, 1}, {1002, 2}};
        for (int[] c : cases) {
            PayrollRun run = paid(c[0]);
            run.bracket(1000, 500);
            check.same("21: above 1000 of " + c[0], run.due(0, 0, 3), c[1] * UNIT / 2);
        }
        PayrollRun run = paid(1001);
        run.bracket(1000, 500);
        run.setRate(0, 1);
        check.same("21: 999.999 is not above it", run.due(0, 0, 3), 0);
        run.setCap(0, 999);
        check.same("21: 1000.001 is", run.due(0, 0, 3), 500L);
        run.setCap(0, 1000);
        check.same("21: 1000 is not", run.due(0, 0, 3), 0);
    }

    private static void thePartUpToTheNextThreshold() {
        int[][] cases = {{0, 0}, {1, 100}, {999, 99900}, {1000, 100000}, {1001, 100400}, {1999, 499600}, {2000, 500000},
            {2001, 500900}};
        for (int[] c : cases) {
            PayrollRun run = paid(c[0]);
            run.bracket(0, 100);
            run.bracket(1000, 400);
            run.bracket(2000, 900);
            check.same("21: tax on " + c[0], run.due(0, 0, 3), c[1] * 1000L);
        }
        PayrollRun run = paid(1000);
        run.bracket(0, 100);
        run.bracket(1, 200);
        run.bracket(2, 0);
        check.same("21: brackets of one unit", run.due(0, 0, 3), 300000L);
    }

    private static void theGreatestThreshold() {
        PayrollRun run = paid(9999);
        for (int m = 0; m < 12; m++) {
            run.bonus(0, m, 9999);
        }
        run.bracket(99999, 999);
        check.same("21: 99990 in five months", run.due(0, 4, 3), 0);
        check.same("21: 119988 in six months", run.due(0, 5, 3), 19989 * UNIT * 999 / 1000);
        check.same("21: all of a month", run.due(0, 11, 3), 19998 * UNIT * 999 / 1000);
        Check.closeAll(run);
        check.same("35: the greatest tax", run.oneRun(0, 3), 139977 * UNIT * 999 / 1000);
        check.same("34: the greatest tax", run.total(0, 3), 139977 * UNIT * 999 / 1000);
    }

    private static void bracketRatesOfNothingAndTheGreatest() {
        PayrollRun run = paid(3000);
        run.bracket(0, 999);
        run.bracket(1000, 0);
        run.bracket(2000, 999);
        check.same("21: nothing of the middle", run.due(0, 0, 3), 1998 * UNIT);
    }

    private static void theFirstAndTheLastMonth() {
        PayrollRun run = paid(100);
        run.bracket(1150, 100);
        run.setRate(0, 10);
        run.setCap(0, 1150);
        check.same("21: month 0 has no earlier ones", run.due(0, 0, 1), UNIT);
        check.same("21: month 11 has eleven earlier ones", run.due(0, 11, 1), UNIT / 2);
        check.same("21: its tax", run.due(0, 11, 3), 3850000L);
        check.same("21: month 10", run.due(0, 10, 3), 0);
        run.salary(0, 11, 0);
        check.same("21: a last month without pay", run.due(0, 11, 4), 0);
    }

    private static void dueFollowsThePresent() {
        PayrollRun run = paid(1000);
        Check.closeAll(run);
        run.setRate(0, 499);
        check.same("21: of a closed month, by the present rules", run.due(0, 0, 1), 499 * UNIT);
        run.bonus(0, 11, 9999);
        check.same("21: of the last month, by the present data", run.due(0, 11, 0), 10999 * UNIT);
        check.same("22: what was settled is not", run.settled(0, 11, 0), 1000 * UNIT);
        check.same("22: nor for the first", run.settled(0, 0, 1), 0);
    }

    private static void oneRunOverNoneAndAllMonths() {
        PayrollRun run = paid(1000);
        run.setRate(0, 100);
        run.setCap(0, 11500);
        run.setRate(1, 1);
        run.bracket(2000, 200);
        for (int what = 0; what < 5; what++) {
            check.same("35: no month is closed, what " + what, run.oneRun(0, what), 0);
        }
        run.closeMonth();
        check.same("35: one month", run.oneRun(0, 0), 1000 * UNIT);
        check.same("35: one month, below the threshold", run.oneRun(0, 3), 0);
        Check.closeAll(run);
        check.same("35: all months", run.oneRun(0, 0), 12000 * UNIT);
        check.same("35: up to the cap", run.oneRun(0, 1), 1150 * UNIT);
        check.same("35: health", run.oneRun(0, 2), 12 * UNIT);
        check.same("35: tax", run.oneRun(0, 3), (12000 - 1150 - 12 - 2000) * UNIT / 5);
        check.same("35: what remains", run.oneRun(0, 4), 10838 * UNIT - 8838 * UNIT / 5);
        run.newYear();
        check.same("35: another year", run.oneRun(0, 4), 0);
    }

    private static void settingsOfWhatIsThere() {
        PayrollRun run = new PayrollRun();
        check.same("18: no bracket", run.setting(3, 0), BAD);
        check.same("18: no bracket, its rate", run.setting(4, 0), BAD);
        check.same("18: number of none", run.setting(5, 0), 0);
        check.same("18: only 0 for the number", run.setting(5, 1), BAD);
        for (int i = 0; i < 5; i++) {
            run.bracket(i + 7, 9 * i);
            check.same("18: the last threshold", run.setting(3, i), i + 7);
            check.same("18: the last rate", run.setting(4, i), 9 * i);
            check.same("18: the next threshold", run.setting(3, i + 1), BAD);
            check.same("18: the next rate", run.setting(4, i + 1), BAD);
        }
        check.same("18: what and index are wrong", run.setting(6, -1), BAD);
        check.same("18: contribution 2", run.setting(1, 2), BAD);
        check.same("18: employee 2", run.setting(0, 2), 0);
    }
}
