/** Promises 6 to 9, 18, 21 and 35: the rules, and what is due by them. */
public final class RulesTest {
    private static final Check check = new Check();

    public static void main(String[] args) {
        setRate();
        setCap();
        bracket();
        clearBrackets();
        setting();
        dueGross();
        dueContributions();
        dueTax();
        dueBounds();
        oneRun();
        check.end();
    }

    private static void setRate() {
        PayrollRun run = new PayrollRun();
        check.same("6: social", run.setRate(0, 499), 0);
        check.same("6: health", run.setRate(1, 7), 0);
        check.same("6: social again", run.setRate(0, 0), 499);
        check.same("6: health again", run.setRate(1, 8), 7);
        check.same("6: contribution -1", run.setRate(-1, 1), PayrollRun.BAD);
        check.same("6: contribution 2", run.setRate(2, 1), PayrollRun.BAD);
        check.same("6: rate -1", run.setRate(0, -1), PayrollRun.BAD);
        check.same("6: rate 500", run.setRate(0, 500), PayrollRun.BAD);
        check.same("6: nothing changed", run.setting(1, 0), 0);
    }

    private static void setCap() {
        PayrollRun run = new PayrollRun();
        check.same("7: social", run.setCap(0, 0), 99999);
        check.same("7: health", run.setCap(1, 5), 99999);
        check.same("7: social again", run.setCap(0, 99999), 0);
        check.same("7: health again", run.setCap(1, 6), 5);
        check.same("7: contribution -1", run.setCap(-1, 1), PayrollRun.BAD);
        check.same("7: contribution 2", run.setCap(2, 1), PayrollRun.BAD);
        check.same("7: cap -1", run.setCap(0, -1), PayrollRun.BAD);
        check.same("7: cap 100000", run.setCap(0, 100000), PayrollRun.BAD);
        check.same("7: nothing changed", run.setting(2, 0), 99999);
    }

    private static void bracket() {
        PayrollRun run = new PayrollRun();
        check.same("8: threshold -1", run.bracket(-1, 1), PayrollRun.BAD);
        check.same("8: threshold 100000", run.bracket(100000, 1), PayrollRun.BAD);
        check.same("8: rate -1", run.bracket(0, -1), PayrollRun.BAD);
        check.same("8: rate 1000", run.bracket(0, 1000), PayrollRun.BAD);
        check.same("8: none yet", run.setting(5, 0), 0);
        check.same("8: threshold 0", run.bracket(0, 0), 1);
        check.same("8: same threshold", run.bracket(0, 1), PayrollRun.BAD);
        check.same("8: one more", run.bracket(1, 999), 2);
        check.same("8: lesser threshold", run.bracket(0, 1), PayrollRun.BAD);
        check.same("8: third", run.bracket(50, 3), 3);
        check.same("8: fourth", run.bracket(60, 2), 4);
        check.same("8: fifth", run.bracket(70, 2), 5);
        check.same("8: sixth", run.bracket(80, 2), PayrollRun.FULL);
        check.same("8: sixth, not ascending", run.bracket(70, 2), PayrollRun.BAD);
        check.same("8: sixth, bad rate", run.bracket(80, 1000), PayrollRun.BAD);
        check.same("8: count stays", run.setting(5, 0), 5);
        PayrollRun other = new PayrollRun();
        check.same("8: threshold 99999", other.bracket(99999, 1), 1);
        check.same("8: nothing above it", other.bracket(99999, 1), PayrollRun.BAD);
    }

    private static void clearBrackets() {
        PayrollRun run = new PayrollRun();
        check.same("9: none", run.clearBrackets(), 0);
        run.bracket(5, 1);
        run.bracket(6, 1);
        check.same("9: two", run.clearBrackets(), 2);
        check.same("9: none left", run.setting(5, 0), 0);
        check.same("9: no threshold left", run.setting(3, 0), PayrollRun.BAD);
        check.same("9: a lesser threshold is good now", run.bracket(3, 2), 1);
        check.same("9: one", run.clearBrackets(), 1);
    }

    private static void setting() {
        PayrollRun run = new PayrollRun();
        run.setFloor(1, 11);
        run.setRate(1, 12);
        run.setCap(0, 13);
        run.bracket(14, 15);
        run.bracket(16, 17);
        check.same("18: floor", run.setting(0, 1), 11);
        check.same("18: rate", run.setting(1, 1), 12);
        check.same("18: cap", run.setting(2, 0), 13);
        check.same("18: threshold 0", run.setting(3, 0), 14);
        check.same("18: threshold 1", run.setting(3, 1), 16);
        check.same("18: bracket rate 0", run.setting(4, 0), 15);
        check.same("18: bracket rate 1", run.setting(4, 1), 17);
        check.same("18: brackets", run.setting(5, 0), 2);
        int[] beyond = {3, 2, 2, 2, 2, 1};
        for (int what = 0; what < 6; what++) {
            check.same("18: what " + what + " index -1", run.setting(what, -1), PayrollRun.BAD);
            check.same("18: what " + what + " beyond", run.setting(what, beyond[what]), PayrollRun.BAD);
        }
        check.same("18: last floor", run.setting(0, 2), 0);
        check.same("18: what -1", run.setting(-1, 0), PayrollRun.BAD);
        check.same("18: what 6", run.setting(6, 0), PayrollRun.BAD);
    }

    private static void dueGross() {
        PayrollRun run = new PayrollRun();
        run.salary(0, 0, 1000);
        run.days(0, 1, 20);
        run.bonus(0, 1, 5);
        run.days(0, 2, 0);
        check.same("21: full month", run.due(0, 0, 0), 1000000000L);
        check.same("21: 1000 * 20 / 30 is rounded down, the bonus is whole", run.due(0, 1, 0), 671000000L);
        check.same("21: no days", run.due(0, 2, 0), 0);
        check.same("21: net without rules", run.due(0, 1, 4), 671000000L);
        check.same("21: a month that isn't closed", run.due(0, 11, 0), 1000000000L);
    }

    /** 1000 a month, social 100 up to 2500, health 50 up to 1000. */
    private static void dueContributions() {
        PayrollRun run = new PayrollRun();
        run.salary(1, 0, 1000);
        run.setRate(0, 100);
        run.setCap(0, 2500);
        run.setRate(1, 50);
        run.setCap(1, 1000);
        check.same("21: social, month 0", run.due(1, 0, 1), 100000000L);
        check.same("21: social, month 1", run.due(1, 1, 1), 100000000L);
        check.same("21: social, up to the cap", run.due(1, 2, 1), 50000000L);
        check.same("21: social, above the cap", run.due(1, 3, 1), 0);
        check.same("21: health, month 0", run.due(1, 0, 2), 50000000L);
        check.same("21: health, above the cap", run.due(1, 1, 2), 0);
        check.same("21: net, month 0", run.due(1, 0, 4), 850000000L);
        check.same("21: net, month 2", run.due(1, 2, 4), 950000000L);
        run.setCap(0, 0);
        check.same("21: cap 0", run.due(1, 0, 1), 0);
        run.bonus(1, 0, 1);
        run.setRate(1, 333);
        run.setCap(1, 99999);
        check.same("21: thousandths of a unit", run.due(1, 0, 2), 333333000L);
    }

    /** Brackets from 1000 at 200 and from 2500 at 333; social 77 makes the taxable parts broken. */
    private static void dueTax() {
        PayrollRun run = new PayrollRun();
        run.salary(2, 0, 999);
        run.bracket(1000, 200);
        check.same("21: below the threshold", run.due(2, 0, 3), 0);
        check.same("21: over it", run.due(2, 1, 3), 199600000L);
        check.same("21: no next threshold", run.due(2, 11, 3), 199800000L);
        run.bracket(2500, 333);
        check.same("21: over the next", run.due(2, 2, 3), 502000000L * 200 / 1000 + 497000000L * 333 / 1000);
        run.setRate(0, 77);
        // Taxable are 922.077 a month: 922.077, 1844.154, 2766.231.
        check.same("21: on what contributions leave", run.due(2, 1, 3), 168830800L);
        check.same("21: exact in millionths", run.due(2, 2, 3), 655846L * 200 + 266231L * 333);
        check.same("21: net", run.due(2, 2, 4), 999000000L - 76923000L - (655846L * 200 + 266231L * 333));
        run.clearBrackets();
        check.same("21: no bracket, no tax", run.due(2, 2, 3), 0);
        run.bracket(0, 999);
        check.same("21: from 0", run.due(2, 0, 3), 922077L * 999);
    }

    private static void dueBounds() {
        PayrollRun run = new PayrollRun();
        check.same("21: employee -1", run.due(-1, 0, 0), PayrollRun.BAD);
        check.same("21: employee 3", run.due(3, 0, 0), PayrollRun.BAD);
        check.same("21: month -1", run.due(0, -1, 0), PayrollRun.BAD);
        check.same("21: month 12", run.due(0, 12, 0), PayrollRun.BAD);
        check.same("21: kind -1", run.due(0, 0, -1), PayrollRun.BAD);
        check.same("21: kind 5", run.due(0, 0, 5), PayrollRun.BAD);
    }

    private static void oneRun() {
        PayrollRun run = new PayrollRun();
        run.salary(0, 0, 1000);
        run.setRate(0, 100);
        run.setCap(0, 2500);
        run.setRate(1, 10);
        run.bracket(2000, 500);
        for (int what = 0; what < 5; what++) {
            check.same("35: nothing closed, what " + what, run.oneRun(0, what), 0);
        }
        run.closeMonth();
        run.closeMonth();
        run.closeMonth();
        check.same("35: gross", run.oneRun(0, 0), 3000000000L);
        check.same("35: social up to the cap", run.oneRun(0, 1), 250000000L);
        check.same("35: health", run.oneRun(0, 2), 30000000L);
        check.same("35: tax", run.oneRun(0, 3), 360000000L);
        check.same("35: what remains", run.oneRun(0, 4), 2360000000L);
        run.salary(0, 2, 2000);
        check.same("35: by the present data", run.oneRun(0, 0), 4000000000L);
        run.setRate(1, 20);
        check.same("35: by the present rules", run.oneRun(0, 2), 80000000L);
        check.same("35: other employee", run.oneRun(1, 0), 0);
        check.same("35: employee -1", run.oneRun(-1, 0), PayrollRun.BAD);
        check.same("35: employee 3", run.oneRun(3, 0), PayrollRun.BAD);
        check.same("35: what -1", run.oneRun(0, -1), PayrollRun.BAD);
        check.same("35: what 5", run.oneRun(0, 5), PayrollRun.BAD);
    }
}
