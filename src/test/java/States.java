/** The states that tests of edges begin in. None takes more than 130 calls, so that many remain of the 512. */
enum States {
    /** Nothing is set. */
    EMPTY,
    /** Five months are closed, corrections are pending, and there are 3, 1 and no garnishments. */
    MIDDLE,
    /** Whatever has a capacity is full: brackets, garnishments, months, changes, the buffer. */
    FULL;

    void reach(PayrollRun run) {
        if (this == MIDDLE) {
            middle(run);
        } else if (this == FULL) {
            full(run);
        }
    }

    PayrollRun make() {
        PayrollRun run = new PayrollRun();
        reach(run);
        return run;
    }

    private static void middle(PayrollRun run) {
        run.salary(0, 0, 2000);
        run.salary(1, 2, 900);
        run.bonus(2, 1, 70);
        run.setRate(0, 90);
        run.setRate(1, 40);
        run.setCap(1, 5000);
        run.bracket(1000, 100);
        run.bracket(4000, 250);
        run.setFloor(0, 700);
        run.closeMonth();
        run.closeMonth();
        run.save();
        run.fixed(0, 100, 150);
        run.share(0, 300, 99999);
        run.fixed(0, 9, 800);
        run.share(1, 500, 600);
        run.closeMonth();
        run.closeMonth();
        run.days(0, 1, 3);
        run.closeMonth();
        run.salary(1, 3, 950);
        run.bonus(0, 2, 40);
        run.setRate(1, 45);
        Check.feed(run, "close;day");
    }

    private static void full(PayrollRun run) {
        for (int employee = 0; employee < 3; employee++) {
            run.salary(employee, 0, 3000 + employee);
            run.setFloor(employee, 100);
            run.fixed(employee, 10, 70);
            run.share(employee, 15, 99999);
            run.fixed(employee, 20, 9000);
        }
        run.setRate(0, 100);
        run.setCap(1, 20000);
        for (int i = 0; i < 5; i++) {
            run.bracket(5000 * i, 50 + 100 * i);
        }
        run.save();
        for (int month = 0; month < 12; month++) {
            run.closeMonth();
            run.bonus(month % 3, month, 300);
        }
        Check.feed(run, "bonus 0 0 5;bonus 1 0 5;bonus 2 0 5;floor 0 5;floor 1 5;rate");
    }
}
