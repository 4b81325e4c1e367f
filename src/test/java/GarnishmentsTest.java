/** Promises 10 to 13, 19 and 20, and what garnishments take when a month is closed. */
public final class GarnishmentsTest {
    private static final Check check = new Check();

    public static void main(String[] args) {
        fixed();
        share();
        drop();
        move();
        garnishment();
        rest();
        takenInOrder();
        reasons();
        sharesAreRoundedDown();
        paidOnesStayUntilNewYear();
        check.end();
    }

    private static void fixed() {
        PayrollRun run = new PayrollRun();
        check.same("10: first", run.fixed(0, 1, 1), 1);
        check.same("10: second", run.fixed(0, 9999, 99999), 2);
        check.same("10: third", run.fixed(0, 5, 6), 3);
        check.same("10: fourth", run.fixed(0, 5, 6), PayrollRun.FULL);
        check.same("10: fourth, bad", run.fixed(0, 0, 6), PayrollRun.BAD);
        check.same("10: other employee", run.fixed(1, 5, 6), 1);
        check.same("10: employee -1", run.fixed(-1, 1, 1), PayrollRun.BAD);
        check.same("10: employee 3", run.fixed(3, 1, 1), PayrollRun.BAD);
        check.same("10: amount 0", run.fixed(2, 0, 1), PayrollRun.BAD);
        check.same("10: amount 10000", run.fixed(2, 10000, 1), PayrollRun.BAD);
        check.same("10: debt 0", run.fixed(2, 1, 0), PayrollRun.BAD);
        check.same("10: debt 100000", run.fixed(2, 1, 100000), PayrollRun.BAD);
        check.same("10: nothing added", run.garnishment(2, -1, 0), 0);
        check.same("10: kind", run.garnishment(0, 1, 0), 0);
    }

    private static void share() {
        PayrollRun run = new PayrollRun();
        check.same("11: first", run.share(0, 1, 1), 1);
        check.same("11: second", run.share(0, 1000, 99999), 2);
        check.same("11: third", run.share(0, 5, 6), 3);
        check.same("11: fourth", run.share(0, 5, 6), PayrollRun.FULL);
        check.same("11: fourth, bad", run.share(0, 1001, 6), PayrollRun.BAD);
        check.same("11: other employee", run.share(1, 5, 6), 1);
        check.same("11: employee -1", run.share(-1, 1, 1), PayrollRun.BAD);
        check.same("11: employee 3", run.share(3, 1, 1), PayrollRun.BAD);
        check.same("11: share 0", run.share(2, 0, 1), PayrollRun.BAD);
        check.same("11: share 1001", run.share(2, 1001, 1), PayrollRun.BAD);
        check.same("11: debt 0", run.share(2, 1, 0), PayrollRun.BAD);
        check.same("11: debt 100000", run.share(2, 1, 100000), PayrollRun.BAD);
        check.same("11: nothing added", run.garnishment(2, -1, 0), 0);
        check.same("11: kind", run.garnishment(0, 1, 0), 1);
    }

    private static PayrollRun three() {
        PayrollRun run = new PayrollRun();
        run.fixed(1, 10, 100);
        run.share(1, 20, 200);
        run.fixed(1, 30, 300);
        return run;
    }

    private static String order(PayrollRun run) {
        StringBuilder text = new StringBuilder();
        for (int i = 0; i < run.garnishment(1, -1, 0); i++) {
            text.append(run.garnishment(1, i, 0)).append(':').append(run.garnishment(1, i, 1)).append(':')
                .append(run.garnishment(1, i, 2)).append(':').append(run.rest(1, i) / 1000000).append(' ');
        }
        return text.toString();
    }

    private static void drop() {
        PayrollRun run = three();
        check.same("12: position 3", run.dropGarnishment(1, 3), PayrollRun.BAD);
        check.same("12: position -1", run.dropGarnishment(1, -1), PayrollRun.BAD);
        check.same("12: employee -1", run.dropGarnishment(-1, 0), PayrollRun.BAD);
        check.same("12: employee 3", run.dropGarnishment(3, 0), PayrollRun.BAD);
        check.same("12: none there", run.dropGarnishment(0, 0), PayrollRun.BAD);
        check.same("12: first", run.dropGarnishment(1, 0), 2);
        check.same("12: the others move up", order(run), "1:20:200:200 0:30:300:300 ");
        check.same("12: last", run.dropGarnishment(1, 1), 1);
        check.same("12: one is left", order(run), "1:20:200:200 ");
        check.same("12: position is gone", run.dropGarnishment(1, 1), PayrollRun.BAD);
        check.same("12: the only one", run.dropGarnishment(1, 0), 0);
        PayrollRun middle = three();
        check.same("12: middle", middle.dropGarnishment(1, 1), 2);
        check.same("12: first and last stay", order(middle), "0:10:100:100 0:30:300:300 ");
        check.same("12: there is room again", middle.share(1, 5, 500), 3);
        check.same("12: behind the others", order(middle), "0:10:100:100 0:30:300:300 1:5:500:500 ");
    }

    private static void move() {
        String[][] orders = {
            {"0:10:100:100 1:20:200:200 0:30:300:300 ", "1:20:200:200 0:10:100:100 0:30:300:300 ",
                "1:20:200:200 0:30:300:300 0:10:100:100 "},
            {"1:20:200:200 0:10:100:100 0:30:300:300 ", "0:10:100:100 1:20:200:200 0:30:300:300 ",
                "0:10:100:100 0:30:300:300 1:20:200:200 "},
            {"0:30:300:300 0:10:100:100 1:20:200:200 ", "0:10:100:100 0:30:300:300 1:20:200:200 ",
                "0:10:100:100 1:20:200:200 0:30:300:300 "}};
        for (int from = 0; from < 3; from++) {
            for (int to = 0; to < 3; to++) {
                PayrollRun run = three();
                check.same("13: kind of " + from, run.moveGarnishment(1, from, to), from == 1 ? 1 : 0);
                check.same("13: from " + from + " to " + to, order(run), orders[from][to]);
            }
        }
        PayrollRun run = three();
        check.same("13: employee -1", run.moveGarnishment(-1, 0, 0), PayrollRun.BAD);
        check.same("13: employee 3", run.moveGarnishment(3, 0, 0), PayrollRun.BAD);
        check.same("13: position -1", run.moveGarnishment(1, -1, 0), PayrollRun.BAD);
        check.same("13: position 3", run.moveGarnishment(1, 3, 0), PayrollRun.BAD);
        check.same("13: to -1", run.moveGarnishment(1, 0, -1), PayrollRun.BAD);
        check.same("13: to 3", run.moveGarnishment(1, 0, 3), PayrollRun.BAD);
        check.same("13: none there", run.moveGarnishment(0, 0, 0), PayrollRun.BAD);
        check.same("13: order stays", order(run), "0:10:100:100 1:20:200:200 0:30:300:300 ");
        run.dropGarnishment(1, 2);
        check.same("13: to a position that is gone", run.moveGarnishment(1, 0, 2), PayrollRun.BAD);
    }

    private static void garnishment() {
        PayrollRun run = three();
        check.same("19: number", run.garnishment(1, -1, 0), 3);
        check.same("19: number of another", run.garnishment(0, -1, 0), 0);
        check.same("19: kind", run.garnishment(1, 1, 0), 1);
        check.same("19: share", run.garnishment(1, 1, 1), 20);
        check.same("19: amount", run.garnishment(1, 2, 1), 30);
        check.same("19: debt", run.garnishment(1, 2, 2), 300);
        check.same("19: -1 with what 1", run.garnishment(1, -1, 1), PayrollRun.BAD);
        check.same("19: -1 with what 2", run.garnishment(1, -1, 2), PayrollRun.BAD);
        check.same("19: position -2", run.garnishment(1, -2, 0), PayrollRun.BAD);
        check.same("19: position 3", run.garnishment(1, 3, 0), PayrollRun.BAD);
        check.same("19: none there", run.garnishment(0, 0, 0), PayrollRun.BAD);
        check.same("19: employee -1", run.garnishment(-1, -1, 0), PayrollRun.BAD);
        check.same("19: employee 3", run.garnishment(3, -1, 0), PayrollRun.BAD);
        check.same("19: what -1", run.garnishment(1, 0, -1), PayrollRun.BAD);
        check.same("19: what 3", run.garnishment(1, 0, 3), PayrollRun.BAD);
    }

    private static void rest() {
        PayrollRun run = three();
        check.same("20: whole debt", run.rest(1, 2), 300000000L);
        run.salary(1, 0, 15);
        run.closeMonth();
        check.same("20: after a month", run.rest(1, 0), 90000000L);
        check.same("20: the debt stays", run.garnishment(1, 0, 2), 100);
        check.same("20: a share of 20 thousandths", run.rest(1, 1), 199700000L);
        check.same("20: what was left", run.rest(1, 2), 295300000L);
        check.same("20: position -1", run.rest(1, -1), PayrollRun.BAD);
        check.same("20: position 3", run.rest(1, 3), PayrollRun.BAD);
        check.same("20: none there", run.rest(0, 0), PayrollRun.BAD);
        check.same("20: employee -1", run.rest(-1, 0), PayrollRun.BAD);
        check.same("20: employee 3", run.rest(3, 0), PayrollRun.BAD);
    }

    /** 1000 gross, floor 400: 600 above it. The share is of all 600, not of what the first left. */
    private static void takenInOrder() {
        PayrollRun run = new PayrollRun();
        run.salary(0, 0, 1000);
        run.setFloor(0, 400);
        run.fixed(0, 250, 99999);
        run.share(0, 500, 99999);
        run.fixed(0, 100, 99999);
        run.closeMonth();
        check.same("14: order", Check.slip(run, 0, 0), "gross 0 0 1000000000;social 0 0 0;health 0 0 0;tax 0 0 0;"
            + "garnish 0 1 -250000000;garnish 1 1 -300000000;garnish 2 2 -50000000;pay 0 0 400000000;");
        run.moveGarnishment(0, 2, 0);
        run.closeMonth();
        check.same("14: another order", Check.slip(run, 0, 1), "gross 1 0 1000000000;social 1 0 0;health 1 0 0;"
            + "tax 1 0 0;garnish 0 1 -100000000;garnish 1 1 -250000000;garnish 2 2 -250000000;pay 0 0 400000000;");
        run.setFloor(0, 1001);
        run.closeMonth();
        check.same("14: below the floor", Check.slip(run, 0, 2), "gross 2 0 1000000000;social 2 0 0;health 2 0 0;"
            + "tax 2 0 0;garnish 0 3 0;garnish 1 3 0;garnish 2 1 0;pay 0 0 1000000000;");
    }

    private static void reasons() {
        PayrollRun run = new PayrollRun();
        run.salary(0, 0, 100);
        run.fixed(0, 60, 60);
        run.fixed(0, 60, 40);
        run.fixed(0, 60, 61);
        run.closeMonth();
        check.same("14: paid by its amount", run.line(0, 0, 4, 2), 4);
        check.same("14: wants at most its rest, and is paid", run.line(0, 0, 5, 2), 4);
        check.same("14: nothing is left", run.line(0, 0, 6, 2), 3);
        check.same("14: took nothing", run.amount(0, 0, 6), 0);
        check.same("14: rest stays", run.rest(0, 2), 61000000L);
        run.closeMonth();
        check.same("14: paid ones have no line", run.lineCount(0, 1), 6);
        check.same("14: its position is the index", run.line(0, 1, 4, 1), 2);
        check.same("14: takes what it wants", run.line(0, 1, 4, 2), 1);
        run.days(0, 2, 0);
        run.bonus(0, 2, 1);
        run.closeMonth();
        check.same("14: its last unit", run.line(0, 2, 4, 2), 4);
    }

    /** 1 gross less 333 thousandths of 333 thousandths: shares of an odd number of millionths. */
    private static void sharesAreRoundedDown() {
        PayrollRun run = new PayrollRun();
        run.salary(0, 0, 1);
        run.setRate(0, 1);
        run.bracket(0, 1);
        // 1.000000 - 0.001000 - 0.000999 = 0.998001
        run.share(0, 1, 9);
        run.share(0, 500, 9);
        run.share(0, 1000, 9);
        run.closeMonth();
        check.same("14: 998.001 millionths", run.amount(0, 0, 4), -998);
        check.same("14: 499000.5 millionths", run.amount(0, 0, 5), -499000);
        check.same("14: the others left", run.amount(0, 0, 6), -498003);
        check.same("14: it wanted more", run.line(0, 0, 6, 2), 2);
        check.same("14: no payout", run.payout(0, 0), 0);
        PayrollRun other = new PayrollRun();
        other.salary(0, 0, 1);
        other.setRate(0, 1);
        other.bracket(0, 1);
        other.share(0, 999, 9);
        other.share(0, 1, 9);
        other.share(0, 1000, 9);
        other.closeMonth();
        check.same("14: the last millionth", other.amount(0, 0, 6), -1);
        check.same("14: it is something", other.line(0, 0, 6, 2), 2);
    }

    private static void paidOnesStayUntilNewYear() {
        PayrollRun run = new PayrollRun();
        run.salary(1, 0, 1000);
        run.fixed(1, 1, 1);
        run.fixed(1, 2, 500);
        run.fixed(1, 3, 3);
        Check.closeAll(run);
        check.same("14: a paid one takes a place", run.fixed(1, 1, 1), PayrollRun.FULL);
        check.same("14: the rests", order(run), "0:1:1:0 0:2:500:476 0:3:3:0 ");
        run.newYear();
        check.same("15: only those with a rest stay", order(run), "0:2:500:476 ");
        run.share(1, 10, 99999);
        run.fixed(1, 5, 5);
        run.moveGarnishment(1, 2, 0);
        Check.closeAll(run);
        run.newYear();
        check.same("15: in their order", order(run).substring(0, 18), "0:2:500:452 1:10:9");
        run.fixed(1, 5, 5);
        run.moveGarnishment(1, 2, 1);
        Check.closeAll(run);
        run.newYear();
        check.same("15: without the one between", order(run).substring(0, 18), "0:2:500:428 1:10:9");
        check.same("15: two", run.garnishment(1, -1, 0), 2);
    }
}
