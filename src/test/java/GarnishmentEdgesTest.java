/** Promises 10 to 13, 19, 20 and what garnishments take, sentence by sentence at the edges. */
public final class GarnishmentEdgesTest {
    private static final int BAD = PayrollRun.BAD;
    private static final int FULL = PayrollRun.FULL;
    private static final long UNIT = 1000000L;
    private static final Check check = new Check();

    public static void main(String[] args) {
        theLeastAndTheGreatest();
        noneAndThree();
        badComesBeforeFull();
        aPlaceIsFreeAgain();
        droppingTheFirstTheLastAndTheOnlyOne();
        movingToTheSamePosition();
        movingFromEndToEnd();
        movedWithAllItsParts();
        positionMinusOne();
        theRestFromTheDebtToNothing();
        paidOnesKeepTheirPosition();
        wantsAtMostTheRest();
        wantsAtMostWhatIsLeft();
        takesNothing();
        nothingAboveTheFloor();
        shareOfAThousand();
        roundedDown();
        theLastMillionth();
        theReasonsInTheirOrder();
        newYearTakesThePaidOnes();
        check.end();
    }

    private static PayrollRun paid(int salary) {
        PayrollRun run = new PayrollRun();
        run.salary(0, 0, salary);
        return run;
    }

    /** Index, reason and amount of the garnish lines of a slip of employee 0. */
    private static String garnishes(PayrollRun run, int month) {
        StringBuilder text = new StringBuilder();
        for (int i = 0; i < run.lineCount(0, month); i++) {
            if (run.line(0, month, i, 0) == 5) {
                text.append(run.line(0, month, i, 1)).append(' ').append(run.line(0, month, i, 2)).append(' ')
                    .append(run.amount(0, month, i)).append(';');
            }
        }
        return text.toString();
    }

    private static String order(PayrollRun run) {
        StringBuilder text = new StringBuilder();
        for (int i = 0; i < run.garnishment(0, -1, 0); i++) {
            text.append(run.garnishment(0, i, 1)).append(' ');
        }
        return text.toString();
    }

    /** All parts of all garnishments of employee 0. */
    private static String whole(PayrollRun run) {
        StringBuilder text = new StringBuilder();
        for (int i = 0; i < run.garnishment(0, -1, 0); i++) {
            for (int what = 0; what < 3; what++) {
                text.append(run.garnishment(0, i, what)).append(' ');
            }
            text.append(run.rest(0, i)).append(';');
        }
        return text.toString();
    }

    private static void theLeastAndTheGreatest() {
        PayrollRun run = new PayrollRun();
        check.same("10: the least", run.fixed(0, 1, 1), 1);
        check.same("10: the greatest", run.fixed(0, 9999, 99999), 2);
        check.same("11: the least", run.share(1, 1, 1), 1);
        check.same("11: the greatest", run.share(1, 1000, 99999), 2);
        check.same("19: amount 1", run.garnishment(0, 0, 1), 1);
        check.same("19: amount 9999", run.garnishment(0, 1, 1), 9999);
        check.same("19: share 1", run.garnishment(1, 0, 1), 1);
        check.same("19: share 1000", run.garnishment(1, 1, 1), 1000);
        check.same("20: debt 1", run.rest(0, 0), UNIT);
        check.same("20: debt 99999", run.rest(1, 1), 99999 * UNIT);
    }

    private static void noneAndThree() {
        for (int employee = 0; employee < 3; employee++) {
            PayrollRun run = new PayrollRun();
            check.same("19: none", run.garnishment(employee, -1, 0), 0);
            check.same("19: no first one", run.garnishment(employee, 0, 0), BAD);
            check.same("20: no first one", run.rest(employee, 0), BAD);
            check.same("12: no first one", run.dropGarnishment(employee, 0), BAD);
            check.same("13: no first one", run.moveGarnishment(employee, 0, 0), BAD);
            check.same("10: first", run.fixed(employee, 1, 1), 1);
            check.same("11: second", run.share(employee, 2, 1), 2);
            check.same("10: third", run.fixed(employee, 3, 1), 3);
            check.same("10: fourth", run.fixed(employee, 4, 1), FULL);
            check.same("11: fourth", run.share(employee, 4, 1), FULL);
            check.same("19: three", run.garnishment(employee, -1, 0), 3);
            check.same("19: the third stays", run.garnishment(employee, 2, 1), 3);
            check.same("11: another employee has none", run.share((employee + 1) % 3, 4, 1), 1);
        }
    }

    private static void badComesBeforeFull() {
        PayrollRun run = new PayrollRun();
        for (int i = 0; i < 3; i++) {
            run.share(0, 1, 1);
        }
        check.same("10: full", run.fixed(0, 9999, 99999), FULL);
        check.same("10: amount 0", run.fixed(0, 0, 1), BAD);
        check.same("10: amount 10000", run.fixed(0, 10000, 1), BAD);
        check.same("10: debt 0", run.fixed(0, 1, 0), BAD);
        check.same("10: debt 100000", run.fixed(0, 1, 100000), BAD);
        check.same("11: full", run.share(0, 1000, 99999), FULL);
        check.same("11: share 0", run.share(0, 0, 1), BAD);
        check.same("11: share 1001", run.share(0, 1001, 1), BAD);
        check.same("11: debt 0", run.share(0, 1, 0), BAD);
        check.same("11: debt 100000", run.share(0, 1, 100000), BAD);
    }

    private static void aPlaceIsFreeAgain() {
        PayrollRun run = new PayrollRun();
        for (int i = 1; i <= 3; i++) {
            run.fixed(0, i, 9);
        }
        run.dropGarnishment(0, 0);
        check.same("10: a third again", run.fixed(0, 4, 9), 3);
        check.same("10: behind the others", order(run), "2 3 4 ");
        check.same("10: full again", run.fixed(0, 5, 9), FULL);
        run.undo();
        run.undo();
        check.same("44: full as before", run.share(0, 5, 9), FULL);
    }

    private static void droppingTheFirstTheLastAndTheOnlyOne() {
        String[] left = {"2 3 ", "1 3 ", "1 2 "};
        for (int position = 0; position < 3; position++) {
            PayrollRun run = new PayrollRun();
            for (int i = 1; i <= 3; i++) {
                run.fixed(0, i, 9);
            }
            check.same("12: two remain", run.dropGarnishment(0, position), 2);
            check.same("12: position " + position, order(run), left[position]);
            check.same("12: position 2 is gone", run.dropGarnishment(0, 2), BAD);
            check.same("12: one remains", run.dropGarnishment(0, 1), 1);
            check.same("12: none remains", run.dropGarnishment(0, 0), 0);
            check.same("12: nothing to remove", run.dropGarnishment(0, 0), BAD);
        }
    }

    private static void movingToTheSamePosition() {
        PayrollRun run = new PayrollRun();
        run.share(0, 1, 9);
        check.same("13: the only one", run.moveGarnishment(0, 0, 0), 1);
        check.same("13: position 1 is not there", run.moveGarnishment(0, 1, 0), BAD);
        check.same("13: nor is it a place to move to", run.moveGarnishment(0, 0, 1), BAD);
        run.fixed(0, 2, 9);
        run.fixed(0, 3, 9);
        for (int i = 0; i < 3; i++) {
            check.same("13: the kind", run.moveGarnishment(0, i, i), i == 0 ? 1 : 0);
            check.same("13: the order", order(run), "1 2 3 ");
        }
        check.same("13: position and place are wrong", run.moveGarnishment(0, 3, -1), BAD);
    }

    private static void movingFromEndToEnd() {
        PayrollRun run = new PayrollRun();
        run.share(0, 1, 9);
        run.fixed(0, 2, 9);
        check.same("13: of two", run.moveGarnishment(0, 1, 0), 0);
        check.same("13: they change places", order(run), "2 1 ");
        run.fixed(0, 3, 9);
        check.same("13: the last one first", run.moveGarnishment(0, 2, 0), 0);
        check.same("13: the others stay in order", order(run), "3 2 1 ");
        check.same("13: the first one last", run.moveGarnishment(0, 0, 2), 0);
        check.same("13: the others stay in order again", order(run), "2 1 3 ");
        check.same("13: the middle one last", run.moveGarnishment(0, 1, 2), 1);
        check.same("13: only two of them change", order(run), "2 3 1 ");
    }

    private static void movedWithAllItsParts() {
        PayrollRun run = paid(100);
        run.share(0, 100, 20);
        run.fixed(0, 3, 40);
        run.fixed(0, 5, 60);
        run.closeMonth();
        String share = "1 100 20 10000000;";
        String three = "0 3 40 37000000;";
        String five = "0 5 60 55000000;";
        check.same("19: each has its parts", whole(run), share + three + five);
        run.moveGarnishment(0, 0, 2);
        check.same("13: they go with it", whole(run), three + five + share);
        run.moveGarnishment(0, 1, 0);
        check.same("13: and with those that change places", whole(run), five + three + share);
        run.dropGarnishment(0, 0);
        check.same("12: and with those behind a removed one", whole(run), three + share);
        run.undo();
        run.undo();
        run.undo();
        check.same("44: and back again", whole(run), share + three + five);
    }

    private static void positionMinusOne() {
        PayrollRun run = new PayrollRun();
        check.same("19: none", run.garnishment(2, -1, 0), 0);
        run.fixed(2, 5, 6);
        check.same("19: one", run.garnishment(2, -1, 0), 1);
        check.same("19: what 1", run.garnishment(2, -1, 1), BAD);
        check.same("19: what 2", run.garnishment(2, -1, 2), BAD);
        check.same("19: what -1", run.garnishment(2, -1, -1), BAD);
        check.same("19: what 3", run.garnishment(2, -1, 3), BAD);
        check.same("19: position -2", run.garnishment(2, -2, 0), BAD);
        check.same("20: no rest of that", run.rest(2, -1), BAD);
        check.same("12: nothing to remove there", run.dropGarnishment(2, -1), BAD);
    }

    private static void theRestFromTheDebtToNothing() {
        PayrollRun run = paid(100);
        run.fixed(0, 40, 100);
        long[] rests = {60, 20, 0, 0};
        String[] lines = {"0 1 -40000000;", "0 1 -40000000;", "0 4 -20000000;", ""};
        check.same("20: all of it", run.rest(0, 0), 100 * UNIT);
        for (int m = 0; m < 4; m++) {
            run.closeMonth();
            check.same("20: after month " + m, run.rest(0, 0), rests[m] * UNIT);
            check.same("14: month " + m, garnishes(run, m), lines[m]);
        }
        check.same("19: its debt stays", run.garnishment(0, 0, 2), 100);
        run.undo();
        run.undo();
        check.same("44: its last rest", run.rest(0, 0), 20 * UNIT);
    }

    private static void paidOnesKeepTheirPosition() {
        PayrollRun run = paid(100);
        run.fixed(0, 1, 1);
        run.fixed(0, 2, 99999);
        run.closeMonth();
        run.closeMonth();
        check.same("14: the second is still at 1", garnishes(run, 1), "1 1 -2000000;");
        check.same("20: the first has no rest", run.rest(0, 0), 0);
        check.same("13: it can be moved", run.moveGarnishment(0, 0, 1), 0);
        run.closeMonth();
        check.same("14: the other is at 0 now", garnishes(run, 2), "0 1 -2000000;");
        check.same("12: it can be removed", run.dropGarnishment(0, 1), 1);
    }

    private static void wantsAtMostTheRest() {
        int[][] cases = {{10, 9, 4, 9}, {10, 10, 4, 10}, {10, 11, 1, 10}};
        for (int[] c : cases) {
            PayrollRun run = paid(100);
            run.fixed(0, c[0], c[1]);
            run.closeMonth();
            check.same("14: amount 10, debt " + c[1], garnishes(run, 0), "0 " + c[2] + " -" + c[3] + "000000;");
        }
        int[][] shares = {{49, 4, 49}, {50, 4, 50}, {51, 1, 50}};
        for (int[] c : shares) {
            PayrollRun run = paid(100);
            run.share(0, 500, c[0]);
            run.closeMonth();
            check.same("14: share 50, debt " + c[0], garnishes(run, 0), "0 " + c[1] + " -" + c[2] + "000000;");
        }
    }

    private static void wantsAtMostWhatIsLeft() {
        int[][] cases = {{59, 1}, {60, 1}, {61, 2}};
        for (int[] c : cases) {
            PayrollRun run = paid(100);
            run.setFloor(0, 40);
            run.fixed(0, c[0], 99999);
            run.closeMonth();
            check.same("14: 60 above the floor, wants " + c[0], garnishes(run, 0),
                "0 " + c[1] + " -" + Math.min(60, c[0]) + "000000;");
        }
        PayrollRun run = paid(100);
        run.setFloor(0, 40);
        run.fixed(0, 59, 99999);
        run.fixed(0, 1, 99999);
        run.fixed(0, 1, 99999);
        run.closeMonth();
        check.same("14: the last unit, and none", garnishes(run, 0), "0 1 -59000000;1 1 -1000000;2 3 0;");
        run = paid(100);
        run.setFloor(0, 40);
        run.fixed(0, 9999, 60);
        run.closeMonth();
        check.same("14: the debt is all that is left", garnishes(run, 0), "0 4 -60000000;");
        run = paid(100);
        run.setFloor(0, 40);
        run.fixed(0, 9999, 61);
        run.closeMonth();
        check.same("14: a unit of the debt remains", garnishes(run, 0), "0 2 -60000000;");
    }

    private static void takesNothing() {
        PayrollRun run = paid(100);
        run.share(0, 1000, 99999);
        run.share(0, 1, 99999);
        run.fixed(0, 1, 1);
        run.closeMonth();
        check.same("14: it wants something, but nothing is left", garnishes(run, 0), "0 1 -100000000;1 3 0;2 3 0;");
        run = paid(0);
        run.share(0, 1000, 1);
        run.fixed(0, 1, 1);
        run.closeMonth();
        check.same("14: a share of nothing is what it wants", garnishes(run, 0), "0 1 0;1 3 0;");
        check.same("20: its rest stays", run.rest(0, 0) + run.rest(0, 1), 2 * UNIT);
    }

    private static void nothingAboveTheFloor() {
        int[][] cases = {{99, 1}, {100, 0}, {101, 0}, {9999, 0}};
        for (int[] c : cases) {
            PayrollRun run = paid(100);
            run.setFloor(0, c[0]);
            run.share(0, 1000, 99999);
            run.closeMonth();
            check.same("14: above floor " + c[0], run.amount(0, 0, 4), -c[1] * UNIT);
            check.same("14: takes what it wants", run.line(0, 0, 4, 2), 1);
            check.same("14: nothing is owed", run.owed(0), 0);
        }
    }

    private static void shareOfAThousand() {
        PayrollRun run = paid(100);
        run.setFloor(0, 30);
        run.share(0, 1000, 99999);
        run.closeMonth();
        check.same("14: all of it", garnishes(run, 0), "0 1 -70000000;");
        check.same("29: the floor is left", run.payout(0, 0), 30 * UNIT);
        run = paid(100);
        run.share(0, 1, 99999);
        run.closeMonth();
        check.same("14: a thousandth", garnishes(run, 0), "0 1 -100000;");
    }

    /** Two millionths are left of a unit: half of them is one, less than half is none. */
    private static void roundedDown() {
        int[][] cases = {{499, 0}, {500, 1}, {999, 1}, {1000, 2}};
        for (int[] c : cases) {
            PayrollRun run = paid(1);
            run.setRate(0, 499);
            run.setRate(1, 499);
            run.bracket(0, 999);
            run.share(0, c[0], 1);
            run.closeMonth();
            check.same("14: share " + c[0] + " of 2 millionths", garnishes(run, 0),
                "0 1 " + (c[1] == 0 ? "0;" : "-" + c[1] + ";"));
            check.same("20: the rest of the unit", run.rest(0, 0), UNIT - c[1]);
        }
    }

    /** 7 less a thousandth of it, less 857 thousandths of what is left, are 999999 millionths. */
    private static void theLastMillionth() {
        PayrollRun run = paid(7);
        run.setRate(0, 1);
        run.bracket(0, 857);
        run.share(0, 1000, 1);
        run.closeMonth();
        check.same("14: all but one", garnishes(run, 0), "0 1 -999999;");
        check.same("20: a rest of one", run.rest(0, 0), 1);
        run.closeMonth();
        check.same("14: it is a rest of its debt", garnishes(run, 1), "0 4 -1;");
        run = paid(7);
        run.setRate(0, 1);
        run.bracket(0, 857);
        run.share(0, 1000, 1);
        for (int m = 0; m < 11; m++) {
            run.days(0, m, 0);
        }
        Check.closeAll(run);
        run.newYear();
        check.same("15: it stays in another year", run.garnishment(0, -1, 0), 1);
        check.same("15: with its rest", run.rest(0, 0), 1);
        run = paid(1);
        run.setRate(0, 499);
        run.setRate(1, 499);
        run.bracket(0, 999);
        run.share(0, 500, 1);
        run.fixed(0, 1, 1);
        run.fixed(0, 1, 1);
        run.closeMonth();
        check.same("14: one is something", garnishes(run, 0), "0 1 -1;1 2 -1;2 3 0;");
    }

    private static void theReasonsInTheirOrder() {
        PayrollRun run = paid(100);
        run.fixed(0, 30, 30);
        run.fixed(0, 70, 70);
        run.fixed(0, 1, 1);
        run.closeMonth();
        check.same("14: 4 before 1, 3 where nothing is left", garnishes(run, 0), "0 4 -30000000;1 4 -70000000;2 3 0;");
        run = paid(100);
        run.fixed(0, 99, 100);
        run.fixed(0, 2, 1);
        run.closeMonth();
        check.same("14: 4, as it wants its rest of 1", garnishes(run, 0), "0 1 -99000000;1 4 -1000000;");
        run = paid(100);
        run.fixed(0, 99, 100);
        run.fixed(0, 2, 2);
        run.closeMonth();
        check.same("14: 2, as a unit of two is left", garnishes(run, 0), "0 1 -99000000;1 2 -1000000;");
    }

    private static void newYearTakesThePaidOnes() {
        for (int paid = 0; paid < 8; paid++) {
            PayrollRun run = paid(100);
            StringBuilder left = new StringBuilder();
            for (int i = 0; i < 3; i++) {
                boolean isPaid = (paid & 1 << i) != 0;
                run.fixed(0, i + 1, isPaid ? 1 : 99999);
                left.append(isPaid ? "" : (i + 1) + " ");
            }
            Check.closeAll(run);
            run.newYear();
            check.same("15: paid are " + paid, order(run), left.toString());
            check.same("15: their places are free", run.fixed(0, 9, 9), paid == 0 ? FULL : 4 - Integer.bitCount(paid));
        }
    }
}
