/** Promises 42 to 44, sentence by sentence at the edges. */
public final class ChangeEdgesTest {
    private static final int NONE = PayrollRun.NONE;
    private static final int KINDS = 16;
    private static final Check check = new Check();

    public static void main(String[] args) {
        noChange();
        sixChangesAndASeventh();
        eachChangeIsOne();
        eachChangeIsUndone();
        eachChangeAsTheSeventh();
        refusedCallsAreNone();
        answersAreNone();
        sameValuesAreChanges();
        theLatestFirst();
        undoneOnesAreNotUndoneAgain();
        aChangeAfterUndo();
        manyTurns();
        noSnapshot();
        savedWithNoneAndAllClosed();
        inPlaceOfTheEarlier();
        theSnapshotIsKept();
        savingIsNoChange();
        restoringIsAChange();
        restoringKeepsWhatCanBeUndone();
        aSnapshotOfAnEmptyRun();
        theBufferStaysAsItIs();
        acrossYears();
        check.end();
    }

    /** A state in which the change can be done: two garnishments, and a snapshot in which all months are closed. */
    private static void reach(PayrollRun run, int kind) {
        run.fixed(1, 5, 500);
        run.fixed(1, 6, 600);
        Check.closeAll(run);
        run.save();
        run.undo();
        if (kind == 7) {
            run.bracket(9, 9);
        }
        if (kind == 15) {
            run.closeMonth();
        }
    }

    private static PayrollRun readyFor(int kind) {
        PayrollRun run = new PayrollRun();
        reach(run, kind);
        return run;
    }

    private static int change(PayrollRun run, int kind) {
        switch (kind) {
            case 0: return run.salary(0, 0, 70);
            case 1: return run.days(0, 0, 7);
            case 2: return run.bonus(0, 0, 71);
            case 3: return run.setFloor(0, 72);
            case 4: return run.setRate(0, 73);
            case 5: return run.setCap(0, 74);
            case 6: return run.bracket(75, 7);
            case 7: return run.clearBrackets();
            case 8: return run.fixed(0, 76, 760);
            case 9: return run.share(0, 77, 770);
            case 10: return run.dropGarnishment(1, 0);
            case 11: return run.moveGarnishment(1, 0, 1);
            case 12: return run.closeMonth();
            case 13: return Check.execute(run, "floor 2 9");
            case 14: return run.restore();
            default: return run.newYear();
        }
    }

    private static String brief(PayrollRun run) {
        StringBuilder text = new StringBuilder();
        for (int what = 0; what < 3; what++) {
            text.append(run.data(0, 0, what)).append(' ');
        }
        for (int what = 0; what < 6; what++) {
            text.append(run.setting(what, 0)).append(' ');
        }
        for (int e = 0; e < 3; e++) {
            text.append(run.setting(0, e)).append(' ').append(run.garnishment(e, -1, 0)).append(' ')
                .append(run.garnishment(e, 0, 1)).append(' ').append(run.garnishment(e, 1, 1)).append(' ');
        }
        return text.append(run.closed()).append(' ').append(run.lineCount(0, 11)).toString();
    }

    private static void noChange() {
        PayrollRun run = new PayrollRun();
        check.same("44: none", run.undo(), NONE);
        check.same("44: none again", run.undo(), NONE);
        run.bonus(0, 0, 1);
        check.same("44: one", run.undo(), 0);
        check.same("44: none is left", run.undo(), NONE);
        check.same("44: it was undone", run.data(0, 0, 2), 0);
    }

    private static void sixChangesAndASeventh() {
        for (int changes = 1; changes <= 8; changes++) {
            PayrollRun run = new PayrollRun();
            for (int i = 1; i <= changes; i++) {
                run.bonus(0, 0, i);
            }
            int most = Math.min(6, changes);
            for (int left = most - 1; left >= 0; left--) {
                check.same("44: left of " + changes, run.undo(), left);
                check.same("44: bonus with " + left + " left", run.data(0, 0, 2), changes - most + left);
            }
            check.same("44: no more of " + changes, run.undo(), NONE);
            check.same("44: older ones are forgotten", run.data(0, 0, 2), changes - most);
        }
    }

    /** All but newYear, before which there are always six. */
    private static void eachChangeIsOne() {
        for (int kind = 0; kind < KINDS - 1; kind++) {
            PayrollRun run = new PayrollRun();
            run.save();
            boolean needsTwo = kind == 10 || kind == 11;
            if (needsTwo) {
                run.fixed(1, 5, 500);
                run.fixed(1, 6, 600);
            }
            check.same("44: change " + kind + " is done", change(run, kind) >= 0 ? 1 : 0, 1);
            check.same("44: change " + kind + " is one", run.undo(), needsTwo ? 2 : 0);
        }
    }

    private static void eachChangeIsUndone() {
        for (int kind = 0; kind < KINDS; kind++) {
            int which = kind;
            PayrollRun run = readyFor(kind);
            String before = brief(run);
            check.same("44: change " + kind + " is done", change(run, kind) >= 0 ? 1 : 0, 1);
            check.same("44: change " + kind + " is seen", brief(run).equals(before) ? 1 : 0, 0);
            check.same("44: five are left of change " + kind, run.undo(), 5);
            check.same("44: change " + kind + " is undone", brief(run), before);
            String told = Told.after(r -> { reach(r, which); r.bonus(2, 2, 2); r.undo(); });
            check.same("44: change " + kind + " is undone, with all that is hidden",
                Told.after(r -> { reach(r, which); change(r, which); r.undo(); }), told);
        }
    }

    /** Six bonuses and then each change: the first bonus is forgotten, the others can be undone. */
    private static void eachChangeAsTheSeventh() {
        for (int kind = 0; kind < KINDS; kind++) {
            PayrollRun run = readyFor(kind);
            for (int i = 1; i <= 6; i++) {
                run.bonus(2, 3, i);
            }
            check.same("44: the seventh is done", change(run, kind) >= 0 ? 1 : 0, 1);
            for (int left = 5; left >= 0; left--) {
                check.same("44: left of seven, change " + kind, run.undo(), left);
                check.same("44: bonus, change " + kind, run.data(2, 3, 2), left + 1);
            }
            check.same("44: no more, change " + kind, run.undo(), NONE);
        }
    }

    private static void refusedCallsAreNone() {
        PayrollRun run = new PayrollRun();
        for (int i = 1; i <= 6; i++) {
            run.bonus(0, 0, i);
        }
        for (int i = 0; i < 8; i++) {
            run.salary(3, 0, 0);
            run.days(0, 0, 31);
            run.bonus(0, 12, 0);
            run.setFloor(0, -1);
            run.setRate(0, 500);
            run.setCap(2, 0);
            run.bracket(0, 1000);
            run.fixed(0, 0, 1);
            run.share(0, 1001, 1);
            run.dropGarnishment(0, 0);
            run.moveGarnishment(0, 0, 0);
            run.newYear();
            run.execute();
            run.restore();
        }
        Check.execute(run, "bonus 0 0 9;bonus 3 0 9");
        for (int left = 5; left >= 0; left--) {
            check.same("44: what is refused is no change", run.undo(), left);
            check.same("44: nor does it lose one", run.data(0, 0, 2), left);
        }
        run = new PayrollRun();
        for (int m = 0; m < 13; m++) {
            run.closeMonth();
        }
        check.same("44: a closing that is refused", run.undo(), 5);
        check.same("44: the last closing was undone", run.closed(), 11);
    }

    private static void answersAreNone() {
        PayrollRun run = new PayrollRun();
        run.bonus(0, 0, 5);
        for (int i = 0; i < 7; i++) {
            run.closed();
            run.due(0, 0, 0);
            run.preview(0);
            run.marginal(0);
            run.leastSalary(0, 5);
            run.projected(0);
            run.statement(0, 0);
            run.feed('x');
            run.save();
        }
        check.same("44: none of them is a change", run.undo(), 0);
        check.same("44: the bonus was", run.data(0, 0, 2), 0);
    }

    private static void sameValuesAreChanges() {
        PayrollRun run = new PayrollRun();
        run.salary(0, 0, 0);
        run.days(0, 0, 30);
        run.bonus(0, 0, 0);
        run.setFloor(0, 0);
        run.setRate(0, 0);
        run.setCap(0, 99999);
        check.same("44: all six are", run.undo(), 5);
        run.clearBrackets();
        check.same("44: clearing no bracket is", run.undo(), 5);
        run.share(0, 5, 5);
        run.moveGarnishment(0, 0, 0);
        check.same("44: moving to the same position is", run.undo(), 5);
        check.same("44: the garnishment is there", run.garnishment(0, -1, 0), 1);
    }

    private static void theLatestFirst() {
        PayrollRun run = new PayrollRun();
        run.salary(0, 0, 1);
        run.days(0, 0, 2);
        run.bonus(0, 0, 3);
        run.setFloor(0, 4);
        run.setRate(0, 5);
        run.setCap(0, 6);
        int[] initially = {0, 30, 0, 0, 0, 99999};
        for (int left = 5; left >= 0; left--) {
            check.same("44: left", run.undo(), left);
            int[] got = {run.data(0, 0, 0), run.data(0, 0, 1), run.data(0, 0, 2), run.setting(0, 0),
                run.setting(1, 0), run.setting(2, 0)};
            for (int i = 0; i < 6; i++) {
                check.same("44: change " + i + " with " + left + " left", got[i], i < left ? i + 1 : initially[i]);
            }
        }
    }

    private static void undoneOnesAreNotUndoneAgain() {
        PayrollRun run = new PayrollRun();
        run.bonus(0, 0, 1);
        run.bonus(0, 0, 2);
        run.undo();
        check.same("44: the one before", run.undo(), 0);
        check.same("44: both are undone", run.data(0, 0, 2), 0);
        check.same("44: undo is no change", run.undo(), NONE);
        check.same("44: it stays undone", run.data(0, 0, 2), 0);
    }

    private static void aChangeAfterUndo() {
        PayrollRun run = new PayrollRun();
        for (int i = 1; i <= 6; i++) {
            run.bonus(0, 0, i);
        }
        run.undo();
        run.undo();
        run.bonus(0, 0, 7);
        run.bonus(0, 0, 8);
        int[] want = {7, 4, 3, 2, 1, 0};
        for (int i = 0; i < 6; i++) {
            check.same("44: six again", run.undo(), 5 - i);
            check.same("44: undone ones are not among them", run.data(0, 0, 2), want[i]);
        }
        check.same("44: no more", run.undo(), NONE);
    }

    private static void manyTurns() {
        PayrollRun run = new PayrollRun();
        for (int turn = 0; turn < 20; turn++) {
            for (int i = 1; i <= 7; i++) {
                run.bonus(0, 0, 10 * turn + i);
            }
            for (int left = 5; left >= 0; left--) {
                check.same("44: turn " + turn, run.undo(), left);
            }
            check.same("44: turn " + turn + ", no more", run.undo(), NONE);
            check.same("44: turn " + turn + ", the first", run.data(0, 0, 2), 10 * turn + 1);
        }
    }

    private static void noSnapshot() {
        PayrollRun run = new PayrollRun();
        check.same("43: none", run.restore(), NONE);
        run.bonus(0, 0, 5);
        check.same("43: still none", run.restore(), NONE);
        check.same("43: nothing is changed", run.data(0, 0, 2), 5);
        check.same("43: nor is it a change", run.undo(), 0);
        check.same("43: undo makes none", run.restore(), NONE);
    }

    private static void savedWithNoneAndAllClosed() {
        PayrollRun run = new PayrollRun();
        for (int m = 0; m <= 12; m++) {
            check.same("42: closed months", run.save(), m);
            check.same("43: closed months", run.restore(), m);
            check.same("16: closed months", run.closed(), m);
            run.closeMonth();
        }
        run.newYear();
        check.same("43: all of the year before", run.restore(), 12);
        check.same("15: its end again", run.newYear(), 1);
    }

    private static void inPlaceOfTheEarlier() {
        PayrollRun run = new PayrollRun();
        run.bonus(0, 0, 1);
        run.save();
        run.bonus(0, 0, 2);
        run.save();
        run.bonus(0, 0, 3);
        run.restore();
        check.same("42: the later one", run.data(0, 0, 2), 2);
        run.undo();
        run.undo();
        run.undo();
        check.same("44: before both", run.data(0, 0, 2), 1);
        run.restore();
        check.same("42: the earlier one is gone", run.data(0, 0, 2), 2);
    }

    private static void theSnapshotIsKept() {
        PayrollRun run = new PayrollRun();
        run.bonus(0, 0, 1);
        run.save();
        for (int i = 2; i < 9; i++) {
            run.bonus(0, 0, i);
            run.fixed(0, i, i);
            run.closeMonth();
            check.same("43: closed months", run.restore(), 0);
            check.same("43: its bonus", run.data(0, 0, 2), 1);
            check.same("43: no garnishment", run.garnishment(0, -1, 0), 0);
        }
        check.same("43: twice at once", run.restore(), 0);
        check.same("43: the same", run.data(0, 0, 2), 1);
    }

    private static void savingIsNoChange() {
        PayrollRun run = new PayrollRun();
        run.save();
        check.same("42: nothing can be undone", run.undo(), NONE);
        run.bonus(0, 0, 1);
        run.save();
        check.same("44: the bonus", run.undo(), 0);
        check.same("42: it is in the snapshot", run.restore(), 0);
        check.same("43: it is there again", run.data(0, 0, 2), 1);
    }

    private static void restoringIsAChange() {
        PayrollRun run = new PayrollRun();
        run.save();
        run.bonus(0, 0, 1);
        run.closeMonth();
        check.same("43: back", run.restore(), 0);
        check.same("44: undone", run.undo(), 2);
        check.same("44: the bonus is there", run.data(0, 0, 2), 1);
        check.same("44: the slip is there", run.payout(0, 0), 1000000L);
        run.restore();
        run.restore();
        check.same("44: each of them is one", run.undo(), 3);
        check.same("44: after the first of them", run.data(0, 0, 2), 0);
        check.same("44: before it", run.undo() * 10 + run.data(0, 0, 2), 21);
    }

    private static void restoringKeepsWhatCanBeUndone() {
        PayrollRun run = new PayrollRun();
        run.save();
        for (int i = 1; i <= 6; i++) {
            run.bonus(0, 0, i);
        }
        run.restore();
        int[] want = {6, 5, 4, 3, 2, 1};
        for (int i = 0; i < 6; i++) {
            check.same("44: left after restoring", run.undo(), 5 - i);
            check.same("44: bonus after restoring", run.data(0, 0, 2), want[i]);
        }
        check.same("44: the first is forgotten", run.undo(), NONE);
        run = new PayrollRun();
        run.bonus(0, 0, 1);
        run.save();
        run.undo();
        check.same("43: back", run.restore(), 0);
        check.same("44: only the restoring", run.undo(), 0);
        check.same("44: without the bonus", run.data(0, 0, 2), 0);
    }

    private static void aSnapshotOfAnEmptyRun() {
        String empty = Told.after(run -> { run.save(); run.save(); run.bonus(0, 0, 0); });
        String restored = Told.after(run -> { run.save(); run.restore(); });
        check.same("43: all is as new, and one change can be undone", restored, empty);
        for (States state : States.values()) {
            String before = Told.after(run -> { state.reach(run); run.save(); run.bonus(2, 11, run.data(2, 11, 2)); });
            String after = Told.after(run -> { state.reach(run); run.save(); run.restore(); });
            check.same("43: a snapshot of " + state, after, before);
        }
    }

    private static void theBufferStaysAsItIs() {
        PayrollRun run = new PayrollRun();
        Check.feed(run, "clo");
        run.save();
        Check.feed(run, "se");
        run.restore();
        check.same("42: without the buffer", run.feed(';'), 6);
        run.undo();
        check.same("44: nor does undo change it", run.feed('x'), 7);
        check.same("41: it is what was fed", run.execute(), -106);
        run.restore();
        check.same("43: it stays empty", run.feed('x'), 1);
        run.execute();
        Check.execute(run, "close");
        run.undo();
        check.same("41: empty in any case, when execute is undone too", run.feed('x'), 1);
    }

    private static void acrossYears() {
        PayrollRun run = new PayrollRun();
        run.salary(0, 0, 10);
        Check.closeAll(run);
        run.newYear();
        check.same("44: the year", run.undo(), 5);
        check.same("44: all are closed", run.closed(), 12);
        check.same("44: with their slips", run.payout(0, 11), 10000000L);
        check.same("44: the last month", run.undo(), 4);
        check.same("15: not all are closed", run.newYear(), NONE);
        check.same("14: the last month again", run.closeMonth(), 11);
        check.same("15: it is the first again", run.newYear(), 1);
    }
}
