/**
 * "A call that returns an error code changes nothing, unless its description says otherwise", and a call that only
 * answers changes nothing either: what Told tells afterwards is what it tells without the call.
 */
public final class RefusalsTest {
    private static final int LEAST = Integer.MIN_VALUE;
    private static final int GREATEST = Integer.MAX_VALUE;
    private static final Check check = new Check();

    private interface Refused {
        /** Makes refused calls; answers how many of them were not refused. */
        int by(PayrollRun run);
    }

    public static void main(String[] args) {
        for (States state : States.values()) {
            entries(state);
            rules(state);
            garnishments(state);
            changes(state);
            theBuffer(state);
            failedTexts(state);
            answers(state);
        }
        whereSomethingIsFull();
        whereThereIsNothing();
        check.end();
    }

    private static int accepted(int... answers) {
        int count = 0;
        for (int answer : answers) {
            count += answer == PayrollRun.BAD || answer == PayrollRun.NONE || answer == PayrollRun.FULL ? 0 : 1;
        }
        return count;
    }

    private static void refused(String what, States state, Refused calls) {
        check.same(what + ": all are refused, " + state, calls.by(state.make()), 0);
        check.same(what + ": nothing is changed, " + state,
            Told.after(run -> { state.reach(run); calls.by(run); }), Told.after(state::reach));
    }

    private static void entries(States state) {
        refused("2: salary", state, run -> accepted(run.salary(-1, 0, 5), run.salary(3, 0, 5), run.salary(0, -1, 5),
            run.salary(0, 12, 5), run.salary(0, 0, -1), run.salary(0, 0, 10000), run.salary(LEAST, 0, 5),
            run.salary(GREATEST, 0, 5), run.salary(0, LEAST, 5), run.salary(0, GREATEST, 5),
            run.salary(0, 0, LEAST), run.salary(0, 0, GREATEST), run.salary(0, 11, 10000)));
        refused("3: days", state, run -> accepted(run.days(-1, 0, 5), run.days(3, 0, 5), run.days(0, -1, 5),
            run.days(0, 12, 5), run.days(0, 0, -1), run.days(0, 0, 31), run.days(LEAST, 0, 5),
            run.days(GREATEST, 0, 5), run.days(0, LEAST, 5), run.days(0, GREATEST, 5), run.days(0, 0, LEAST),
            run.days(0, 0, GREATEST)));
        refused("4: bonus", state, run -> accepted(run.bonus(-1, 0, 5), run.bonus(3, 0, 5), run.bonus(0, -1, 5),
            run.bonus(0, 12, 5), run.bonus(0, 0, -1), run.bonus(0, 0, 10000), run.bonus(LEAST, 0, 5),
            run.bonus(GREATEST, 0, 5), run.bonus(0, LEAST, 5), run.bonus(0, GREATEST, 5), run.bonus(0, 0, LEAST),
            run.bonus(0, 0, GREATEST)));
        refused("5: setFloor", state, run -> accepted(run.setFloor(-1, 5), run.setFloor(3, 5), run.setFloor(0, -1),
            run.setFloor(0, 10000), run.setFloor(LEAST, 5), run.setFloor(GREATEST, 5), run.setFloor(0, LEAST),
            run.setFloor(0, GREATEST)));
    }

    private static void rules(States state) {
        refused("6: setRate", state, run -> accepted(run.setRate(-1, 5), run.setRate(2, 5), run.setRate(0, -1),
            run.setRate(0, 500), run.setRate(1, 500), run.setRate(LEAST, 5), run.setRate(GREATEST, 5),
            run.setRate(0, LEAST), run.setRate(0, GREATEST)));
        refused("7: setCap", state, run -> accepted(run.setCap(-1, 5), run.setCap(2, 5), run.setCap(0, -1),
            run.setCap(0, 100000), run.setCap(1, 100000), run.setCap(LEAST, 5), run.setCap(GREATEST, 5),
            run.setCap(0, LEAST), run.setCap(0, GREATEST)));
        refused("8: bracket", state, run -> accepted(run.bracket(-1, 5), run.bracket(100000, 5),
            run.bracket(99999, -1), run.bracket(99999, 1000), run.bracket(LEAST, 5), run.bracket(GREATEST, 5),
            run.bracket(99999, LEAST), run.bracket(99999, GREATEST), run.bracket(-1, 1000)));
    }

    private static void garnishments(States state) {
        refused("10: fixed", state, run -> accepted(run.fixed(-1, 5, 5), run.fixed(3, 5, 5), run.fixed(2, 0, 5),
            run.fixed(2, 10000, 5), run.fixed(2, 5, 0), run.fixed(2, 5, 100000), run.fixed(LEAST, 5, 5),
            run.fixed(GREATEST, 5, 5), run.fixed(2, LEAST, 5), run.fixed(2, GREATEST, 5), run.fixed(2, 5, LEAST),
            run.fixed(2, 5, GREATEST)));
        refused("11: share", state, run -> accepted(run.share(-1, 5, 5), run.share(3, 5, 5), run.share(2, 0, 5),
            run.share(2, 1001, 5), run.share(2, 5, 0), run.share(2, 5, 100000), run.share(LEAST, 5, 5),
            run.share(GREATEST, 5, 5), run.share(2, LEAST, 5), run.share(2, GREATEST, 5), run.share(2, 5, LEAST),
            run.share(2, 5, GREATEST)));
        refused("12: dropGarnishment", state, run -> accepted(run.dropGarnishment(-1, 0), run.dropGarnishment(3, 0),
            run.dropGarnishment(0, -1), run.dropGarnishment(0, 3), run.dropGarnishment(1, 3),
            run.dropGarnishment(LEAST, 0), run.dropGarnishment(GREATEST, 0), run.dropGarnishment(0, LEAST),
            run.dropGarnishment(0, GREATEST)));
        refused("13: moveGarnishment", state, run -> accepted(run.moveGarnishment(-1, 0, 0),
            run.moveGarnishment(3, 0, 0), run.moveGarnishment(0, -1, 0), run.moveGarnishment(0, 3, 0),
            run.moveGarnishment(0, 0, -1), run.moveGarnishment(0, 0, 3), run.moveGarnishment(LEAST, 0, 0),
            run.moveGarnishment(GREATEST, 0, 0), run.moveGarnishment(0, LEAST, 0),
            run.moveGarnishment(0, GREATEST, 0), run.moveGarnishment(0, 0, LEAST),
            run.moveGarnishment(0, 0, GREATEST)));
    }

    private static void changes(States state) {
        if (state != States.FULL) {
            refused("15: newYear", state, run -> accepted(run.newYear(), run.newYear()));
        }
        check.same("42: a second save changes nothing, " + state,
            Told.after(run -> { state.reach(run); run.save(); run.save(); }),
            Told.after(run -> { state.reach(run); run.save(); }));
    }

    private static void theBuffer(States state) {
        refused("40: feed", state, run -> accepted(run.feed(31), run.feed(127), run.feed(-1), run.feed(LEAST),
            run.feed(GREATEST), run.feed(256 + 'a'), run.feed(65536 + 'a')));
    }

    /** The description of execute says otherwise for the buffer alone, so it is empty before and afterwards. */
    private static void failedTexts(States state) {
        String emptied = Told.after(run -> { state.reach(run); run.execute(); });
        String[] errors = {"", ";", "close;", "close;closed", "floor 0 7;rate 0 8;cap 0 9 ", "close;close;salary 0 0",
            "salary 0 0 1;days 0 0 2;bonus 0 0 3;days 0 0 31", "floor 0 7;rate 0 8;cap 0 9;rate 2 0",
            "drop 0 0;move 1 0 0;fixed 0 5 5;share 2 6 6;drop 2 3", "close;close;close;salary 0 12 0",
            "rate 0 1;rate 1 1;bracket 99998 1;bracket 99999 2;cap 2 0", "close;close;close;close;close;close;close;x"};
        for (String error : errors) {
            PayrollRun tried = state.make();
            tried.execute();
            check.same("41: \"" + error + "\" is refused, " + state, Check.execute(tried, error) <= -100 ? 1 : 0, 1);
            check.same("41: \"" + error + "\" changes nothing, " + state,
                Told.after(run -> { state.reach(run); run.execute(); Check.execute(run, error); }), emptied);
        }
    }

    /** A capacity, or the end of the year. */
    private static void whereSomethingIsFull() {
        refused("8: bracket", States.FULL, run -> accepted(run.bracket(20001, 5), run.bracket(99999, 999)));
        refused("10: fixed", States.FULL, run -> accepted(run.fixed(0, 5, 5), run.fixed(2, 9999, 99999)));
        refused("11: share", States.FULL, run -> accepted(run.share(0, 5, 5), run.share(2, 1000, 99999)));
        refused("14: closeMonth", States.FULL, run -> accepted(run.closeMonth(), run.closeMonth()));
        refused("40: feed", States.FULL, run -> accepted(run.feed('a'), run.feed(32), run.feed(126)));
    }

    private static void whereThereIsNothing() {
        refused("43: restore", States.EMPTY, run -> accepted(run.restore(), run.restore()));
        refused("44: undo", States.EMPTY, run -> accepted(run.undo(), run.undo()));
        refused("12: dropGarnishment", States.EMPTY, run -> accepted(run.dropGarnishment(0, 0)));
        refused("13: moveGarnishment", States.EMPTY, run -> accepted(run.moveGarnishment(0, 0, 0)));
        String undone = Told.after(RefusalsTest::middleUndone);
        check.same("44: undo where all is undone changes nothing",
            Told.after(run -> { middleUndone(run); run.undo(); run.undo(); }), undone);
    }

    private static void middleUndone(PayrollRun run) {
        States.MIDDLE.reach(run);
        for (int i = 0; i < 6; i++) {
            run.undo();
        }
    }

    /** Calls that are no changes, with arguments in range and out of it. */
    private static void answers(States state) {
        String before = Told.after(state::reach);
        unchanged("16 to 20", state, before, run -> {
            run.closed();
            for (int i = -1; i < 4; i++) {
                run.data(i, i, i);
                run.setting(i, i);
                run.garnishment(i, i, i);
                run.rest(i, i);
            }
        });
        unchanged("21 to 24", state, before, run -> {
            for (int i = -1; i < 4; i++) {
                run.due(i, 3 * i, 4);
                run.settled(i, 3 * i, 4);
                run.pending(i);
                run.owed(i);
            }
        });
        unchanged("25 to 29", state, before, run -> {
            for (int i = -1; i < 4; i++) {
                run.lineCount(i, 3 * i);
                run.line(i, 3 * i, i, i);
                run.amount(i, 3 * i, i);
                run.letter(i, 3 * i, i);
                run.payout(i, 3 * i);
            }
        });
        unchanged("30 to 33", state, before, run -> {
            for (int i = -1; i < 4; i++) {
                run.preview(i);
                run.marginal(i);
                run.leastSalary(i, 500 * i);
                run.projected(i);
            }
        });
        unchanged("34 to 39", state, before, run -> {
            for (int i = -1; i < 4; i++) {
                run.total(i, 2 * i + 1);
                run.oneRun(i, i);
                run.account(3 * i, i);
                run.statement(i, i);
                run.lowest(i);
                run.corrections(i, 3 * i);
            }
        });
    }

    private static void unchanged(String promises, States state, String before, Told.Calls calls) {
        check.same(promises + ": nothing is changed by an answer, " + state,
            Told.after(run -> { state.reach(run); calls.on(run); }), before);
    }
}
