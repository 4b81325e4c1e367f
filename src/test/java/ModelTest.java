/** Long runs of calls, by a fixed sequence of numbers, on the class and on Model: all answers are the same. */
public final class ModelTest {
    private static final int RUNS = 600;
    private static final String[] TEXTS = {
        "close", "close;close", "close;close;close;close", "salary 0 0 3000;close", "days 1 2 10;bonus 1 3 77",
        "rate 0 93;cap 0 4000;bracket 99999 1", "bracket 500 10;bracket 800 200", "fixed 0 10 50;share 0 500 90",
        "drop 0 0", "move 0 1 0", "floor 2 800;close", "salary 0 0 1;salary 3 0 1", "close;close;bonus 0 0 10000",
        "", "close;", ";", "salary", "sala", "salary ", "salary 1 2 3 4", "days 0 0 123456", "closes", "Close",
        "close close", "rate 0 1;;", "rate 0  1", "fixed 0 1", "close 1", "bonus 0 00000 00012;close;clos"};

    private final Check check = new Check();
    private long seed;
    private PayrollRun run;
    private Model model;
    private int runNumber;
    private int style;

    public static void main(String[] args) {
        ModelTest test = new ModelTest();
        for (int i = 0; i < RUNS && test.check.wrong() < 20; i++) {
            test.oneRun(i);
        }
        test.check.end();
    }

    private void oneRun(int number) {
        runNumber = number;
        seed = number * 7919L + 12345;
        style = number % 4;
        run = new PayrollRun();
        model = new Model();
        for (int i = 0; i < 500 && check.wrong() < 20; i++) {
            if (next(3) == 0) {
                question();
            } else {
                change();
            }
        }
        if (check.wrong() < 20) {
            compareAll();
        }
    }

    private int next(int below) {
        seed = seed * 6364136223846793005L + 1442695040888963407L;
        return (int) ((seed >>> 33) % below);
    }

    /** Mostly 0 to most, sometimes just outside, seldom far. */
    private int upTo(int most) {
        int luck = next(40);
        if (luck == 0) {
            return next(2) == 0 ? -1 : most + 1;
        }
        if (luck == 1) {
            return next(2) == 0 ? Integer.MIN_VALUE + next(9) : Integer.MAX_VALUE - next(9);
        }
        return luck < 8 ? (next(2) == 0 ? 0 : most) : next(most + 1);
    }

    private int money() {
        return style == 1 ? upTo(9999) : next(20) == 0 ? upTo(9999) : 100 * next(60);
    }

    private void same(String call, long got, long want) {
        check.same("run " + runNumber + ": " + call, got, want);
    }

    private void change() {
        int e = next(3) == 0 ? upTo(2) : 0;
        int m = next(2) == 0 ? upTo(11) : Math.max(0, run.closed() - next(3));
        switch (next(style == 2 ? 30 : 24)) {
            case 0: case 1: pay(e, m); break;
            case 2: case 3: { int d = upTo(30); same("days", run.days(e, m, d), model.days(e, m, d)); break; }
            case 4: case 5: { int b = money(); same("bonus", run.bonus(e, m, b), model.bonus(e, m, b)); break; }
            case 6: { int f = money(); same("setFloor", run.setFloor(e, f), model.setFloor(e, f)); break; }
            case 7: { int c = upTo(1), r = upTo(499); same("setRate", run.setRate(c, r), model.setRate(c, r)); break; }
            case 8: { int c = upTo(1), k = upTo(style == 0 ? 99999 : 30000);
                same("setCap", run.setCap(c, k), model.setCap(c, k)); break; }
            case 9: case 10: { int t = next(5) * 1000 + upTo(20000), r = upTo(999);
                same("bracket", run.bracket(t, r), model.bracket(t, r)); break; }
            case 11: if (next(3) == 0) { same("clearBrackets", run.clearBrackets(), model.clearBrackets()); } break;
            case 12: { int a = 1 + upTo(800), d = 1 + upTo(next(2) == 0 ? 999 : 99998);
                same("fixed", run.fixed(e, a, d), model.fixed(e, a, d)); break; }
            case 13: { int a = 1 + upTo(999), d = 1 + upTo(next(2) == 0 ? 999 : 99998);
                same("share", run.share(e, a, d), model.share(e, a, d)); break; }
            case 14: { int p = upTo(2); same("drop", run.dropGarnishment(e, p), model.dropGarnishment(e, p)); break; }
            case 15: { int p = upTo(2), t = upTo(2);
                same("move", run.moveGarnishment(e, p, t), model.moveGarnishment(e, p, t)); break; }
            case 16: text(); break;
            case 17: if (next(3) == 0) { same("save", run.save(), model.save()); } break;
            case 18: if (next(3) == 0) { same("restore", run.restore(), model.restore()); } break;
            case 19: back(); break;
            case 20: case 21: same("newYear", run.newYear(), model.newYear()); break;
            default: same("closeMonth", run.closeMonth(), model.closeMonth()); break;
        }
    }

    private void pay(int e, int m) {
        int a = money();
        same("salary(" + e + ", " + m + ", " + a + ")", run.salary(e, m, a), model.salary(e, m, a));
    }

    private void back() {
        for (int i = next(style == 3 ? 8 : 3); i > 0; i--) {
            same("undo", run.undo(), model.undo());
        }
    }

    private void text() {
        StringBuilder text = new StringBuilder(TEXTS[next(TEXTS.length)]);
        if (next(3) == 0) {
            text.append(next(2) == 0 ? ";" : "").append(TEXTS[next(TEXTS.length)]);
        }
        if (next(3) == 0 && text.length() > 0) {
            text.setCharAt(next(text.length()), (char) (next(3) == 0 ? 32 + next(95) : " ;c7"
                .charAt(next(4))));
        }
        for (int i = 0; i < text.length(); i++) {
            same("feed", run.feed(text.charAt(i)), model.feed(text.charAt(i)));
        }
        if (next(30) == 0) {
            int wild = upTo(126);
            same("feed", run.feed(wild), model.feed(wild));
        }
        same("execute() of " + text, run.execute(), model.execute());
    }

    private void question() {
        int e = upTo(2);
        int m = next(2) == 0 ? upTo(11) : Math.max(0, run.closed() - 1);
        int i = upTo(20);
        int w = upTo(8);
        switch (next(24)) {
            case 0: same("data", run.data(e, m, w), model.data(e, m, w)); break;
            case 1: same("setting", run.setting(w, e), model.setting(w, e)); break;
            case 2: same("garnishment", run.garnishment(e, m - 1, w), model.garnishment(e, m - 1, w)); break;
            case 3: same("rest", run.rest(e, m), model.rest(e, m)); break;
            case 4: same("due", run.due(e, m, w), model.due(e, m, w)); break;
            case 5: same("settled", run.settled(e, m, w), model.settled(e, m, w)); break;
            case 6: same("pending", run.pending(e), model.pending(e)); break;
            case 7: same("owed", run.owed(e), model.owed(e)); break;
            case 8: same("lineCount", run.lineCount(e, m), model.lineCount(e, m)); break;
            case 9: same("line", run.line(e, m, i, w), model.line(e, m, i, w)); break;
            case 10: same("amount", run.amount(e, m, i), model.amount(e, m, i)); break;
            case 11: same("letter", run.letter(e, m, i * i), model.letter(e, m, i * i)); break;
            case 12: same("payout", run.payout(e, m), model.payout(e, m)); break;
            case 13: same("preview", run.preview(e), model.preview(e)); break;
            case 14: same("marginal", run.marginal(e), model.marginal(e)); break;
            case 15: least(e); break;
            case 16: same("projected", run.projected(e), model.projected(e)); break;
            case 17: same("total", run.total(e, w), model.total(e, w)); break;
            case 18: same("oneRun", run.oneRun(e, w), model.oneRun(e, w)); break;
            case 19: same("account", run.account(m, w), model.account(m, w)); break;
            case 20: same("statement", run.statement(e, i * 9), model.statement(e, i * 9)); break;
            case 21: same("lowest", run.lowest(e), model.lowest(e)); break;
            case 22: same("corrections", run.corrections(e, m), model.corrections(e, m)); break;
            default: same("closed", run.closed(), model.closed()); break;
        }
    }

    private void least(int e) {
        if (next(6) == 0) {
            int net = next(4) == 0 ? upTo(99999) : next(7000);
            same("leastSalary", run.leastSalary(e, net), model.leastSalary(e, net));
        }
    }

    private void compareAll() {
        for (int e = -1; e < 4; e++) {
            for (int m = -1; m < 13; m++) {
                compareMonth(e, m);
            }
            for (int i = -2; i < 260; i++) {
                same("statement", run.statement(e, i), model.statement(e, i));
            }
            for (int w = -1; w < 10; w++) {
                same("total", run.total(e, w), model.total(e, w));
                same("oneRun", run.oneRun(e, w), model.oneRun(e, w));
                same("rest", run.rest(e, w), model.rest(e, w));
                same("setting", run.setting(w, e), model.setting(w, e));
                same("garnishment", run.garnishment(e, w, e + 1), model.garnishment(e, w, e + 1));
            }
            same("preview", run.preview(e), model.preview(e));
            same("marginal", run.marginal(e), model.marginal(e));
            same("projected", run.projected(e), model.projected(e));
            same("pending", run.pending(e), model.pending(e));
            same("lowest", run.lowest(e), model.lowest(e));
            same("owed", run.owed(e), model.owed(e));
        }
    }

    private void compareMonth(int e, int m) {
        for (int w = -1; w < 6; w++) {
            same("data", run.data(e, m, w), model.data(e, m, w));
            same("due", run.due(e, m, w), model.due(e, m, w));
            same("settled", run.settled(e, m, w), model.settled(e, m, w));
            same("account", run.account(m, w), model.account(m, w));
        }
        same("lineCount", run.lineCount(e, m), model.lineCount(e, m));
        same("payout", run.payout(e, m), model.payout(e, m));
        same("corrections", run.corrections(e, m), model.corrections(e, m));
        for (int i = -2; i < 55; i++) {
            same("amount", run.amount(e, m, i), model.amount(e, m, i));
            same("line", run.line(e, m, i, 0), model.line(e, m, i, 0));
            same("line", run.line(e, m, i, 1), model.line(e, m, i, 1));
            same("line", run.line(e, m, i, 2), model.line(e, m, i, 2));
        }
        int length = model.letter(e, m, -1);
        for (int i = -2; i <= length; i++) {
            same("letter", run.letter(e, m, i), model.letter(e, m, i));
        }
    }
}
