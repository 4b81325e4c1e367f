/** Promises 40 and 41, sentence by sentence at the edges. */
public final class CommandEdgesTest {
    private static final int BAD = PayrollRun.BAD;
    private static final int NONE = PayrollRun.NONE;
    private static final int FULL = PayrollRun.FULL;
    private static final String[] WORDS = {"salary", "days", "bonus", "floor", "rate", "cap", "bracket", "fixed",
        "share", "drop", "move", "close"};
    private static final int[] NUMBERS = {3, 3, 3, 2, 2, 2, 2, 3, 3, 2, 3, 0};
    private static final Check check = new Check();

    public static void main(String[] args) {
        noCharacterAndSixty();
        theFirstAndTheLastCharacter();
        badComesBeforeFull();
        theEmptyText();
        onlyASemicolon();
        oneToFiveDigits();
        aSingleBlank();
        eachWordWithItsNumbers();
        eachWordCutOff();
        eachWordMisspelt();
        wordsThatAreNone();
        endsTooEarly();
        sixtyCharactersThatEndTooEarly();
        theMostCommands();
        theEmptyBufferAfterwards();
        eachCodeOfACommand();
        theFirstCommandThatFails();
        theTextComesBeforeTheCommands();
        commandsSeeTheOnesBefore();
        inTheirOrder();
        oneChange();
        check.end();
    }

    private static int execute(String text) {
        return Check.execute(new PayrollRun(), text);
    }

    private static void noCharacterAndSixty() {
        PayrollRun run = new PayrollRun();
        for (int i = 1; i <= 60; i++) {
            check.same("40: character " + i, run.feed('x'), i);
        }
        check.same("40: character 61", run.feed('x'), FULL);
        check.same("40: still", run.feed('x'), FULL);
        check.same("41: a word of sixty letters is none", run.execute(), -100);
        check.same("40: empty again", run.feed('x'), 1);
    }

    private static void theFirstAndTheLastCharacter() {
        int[] codes = {Integer.MIN_VALUE, -33, -1, 0, 9, 10, 31, 127, 128, 255, 256 + 32, 65536 + 32,
            Integer.MAX_VALUE};
        PayrollRun run = new PayrollRun();
        for (int code : codes) {
            check.same("40: " + code, run.feed(code), BAD);
        }
        for (int code = 32; code <= 126; code++) {
            check.same("40: " + code, run.feed(code), 1);
            check.same("41: it is no word", run.execute(), -100);
        }
    }

    private static void badComesBeforeFull() {
        PayrollRun run = new PayrollRun();
        for (int i = 0; i < 60; i++) {
            run.feed(' ');
        }
        check.same("40: 32", run.feed(32), FULL);
        check.same("40: 126", run.feed(126), FULL);
        check.same("40: 31", run.feed(31), BAD);
        check.same("40: 127", run.feed(127), BAD);
        check.same("40: the smallest int", run.feed(Integer.MIN_VALUE), BAD);
        check.same("40: the largest int", run.feed(Integer.MAX_VALUE), BAD);
    }

    private static void theEmptyText() {
        PayrollRun run = new PayrollRun();
        check.same("41: ends too early", run.execute(), -100);
        check.same("41: no change", run.undo(), NONE);
        check.same("41: again", run.execute(), -100);
    }

    private static void onlyASemicolon() {
        check.same("41: \";\"", execute(";"), -100);
        check.same("41: \";close\"", execute(";close"), -100);
        check.same("41: \"close;\"", execute("close;"), -106);
        check.same("41: \"close;;\"", execute("close;;"), -106);
        check.same("41: \"close; close\"", execute("close; close"), -106);
        check.same("41: \"close ;close\"", execute("close ;close"), -105);
        check.same("41: \"close,close\"", execute("close,close"), -105);
        check.same("41: \"close:close\"", execute("close:close"), -105);
    }

    private static void oneToFiveDigits() {
        check.same("41: no digit", execute("rate 0 "), -107);
        check.same("41: no digit, but a semicolon", execute("rate 0 ;"), -107);
        check.same("41: one digit", execute("rate 0 1"), 1);
        check.same("41: two digits", execute("rate 0 10"), 1);
        check.same("41: three digits", execute("rate 0 100"), 1);
        check.same("41: four digits", execute("bonus 0 0 1000"), 1);
        check.same("41: five digits", execute("cap 0 10000"), 1);
        check.same("41: six digits", execute("cap 0 010000"), -111);
        check.same("41: six digits of the first number", execute("cap 000000 1"), -109);
        check.same("41: five zeros", execute("cap 00000 00000"), 1);
        check.same("41: the greatest number", execute("cap 1 99999"), 1);
        check.same("41: the sign before 0", execute("cap /"), -104);
        check.same("41: the sign behind 9", execute("cap :"), -104);
        check.same("41: the sign behind 9, as a second digit", execute("cap 0:"), -105);
        check.same("41: 0 and 9 are digits", execute("cap 0 9"), 1);
        check.same("41: a minus sign", execute("cap 0 -1"), -106);
        check.same("41: a letter behind digits", execute("cap 0 1x"), -107);
        PayrollRun run = new PayrollRun();
        Check.execute(run, "cap 0 12345;cap 1 00067;floor 00002 08900");
        check.same("41: the digits in their order", run.setting(2, 0), 12345);
        check.same("41: zeros before", run.setting(2, 1), 67);
        check.same("41: zeros before and behind", run.setting(0, 2), 8900);
    }

    private static void aSingleBlank() {
        check.same("41: none before the first", execute("rate0 1"), -104);
        check.same("41: two before the first", execute("rate  0 1"), -105);
        check.same("41: two before the second", execute("rate 0  1"), -107);
        check.same("41: one behind the last", execute("rate 0 1 "), -108);
        check.same("41: one behind a word without numbers", execute("close "), -105);
        check.same("41: one before the first word", execute(" close"), -100);
        check.same("41: a number too much", execute("rate 0 1 2"), -108);
        check.same("41: another sign", execute("rate\"0 1"), -104);
        check.same("41: the sign behind a blank", execute("rate!0 1"), -104);
    }

    private static String command(int word, int numbers) {
        StringBuilder text = new StringBuilder(WORDS[word]);
        for (int i = 0; i < numbers; i++) {
            text.append(" 0");
        }
        return text.toString();
    }

    /** One number less ends too early or at a semicolon, one more is an error at its blank. */
    private static void eachWordWithItsNumbers() {
        for (int word = 0; word < WORDS.length; word++) {
            String full = command(word, NUMBERS[word]);
            int answer = execute(full);
            check.same("41: the text \"" + full + "\" has no error", answer == 1 || answer == -200 ? 1 : 0, 1);
            String more = command(word, NUMBERS[word] + 1);
            check.same("41: \"" + more + "\"", execute(more), -100 - full.length());
            check.same("41: \"" + full + ";\"", execute(full + ";"), -100 - full.length() - 1);
            check.same("41: \"" + full + "x\"", execute(full + "x"),
                NUMBERS[word] == 0 ? -100 : -100 - full.length());
            for (int numbers = 0; numbers < NUMBERS[word]; numbers++) {
                String less = command(word, numbers);
                check.same("41: \"" + less + "\"", execute(less), -100 - less.length());
                check.same("41: \"" + less + ";\"", execute(less + ";"), -100 - less.length());
                check.same("41: \"" + less + " \"", execute(less + " "), -100 - less.length() - 1);
            }
        }
    }

    private static void eachWordCutOff() {
        for (String word : WORDS) {
            for (int length = 0; length < word.length(); length++) {
                String part = word.substring(0, length);
                check.same("41: \"" + part + "\"", execute(part), -100);
                check.same("41: \"close;" + part + "\"", execute("close;" + part), -106);
                check.same("41: \"" + part + " 0\"", execute(part + " 0"), -100);
                check.same("41: \"" + part + ";\"", execute(part + ";"), -100);
            }
            check.same("41: a letter too much", execute("close;" + word + "s 0 0 0"), -106);
            check.same("41: a letter before", execute("a" + word + " 0 0 0"), -100);
        }
    }

    /** One letter of a word is another one. */
    private static void eachWordMisspelt() {
        for (int word = 0; word < WORDS.length; word++) {
            String text = command(word, NUMBERS[word]);
            for (int i = 0; i < WORDS[word].length(); i++) {
                for (int step = -1; step < 2; step += 2) {
                    char other = (char) (text.charAt(i) + step);
                    String wrong = text.substring(0, i) + other + text.substring(i + 1);
                    check.same("41: \"" + wrong + "\"", execute(wrong), -100);
                }
            }
        }
    }

    private static void wordsThatAreNone() {
        String[] none = {"setRate 0 0", "setrate 0 0", "setcap 0 0", "setfloor 0 0", "clear", "clearbrackets",
            "newyear", "closemonth", "undo", "save", "restore", "execute", "feed 32", "Salary 0 0 0", "SALARY 0 0 0",
            "dropgarnishment 0 0", "movegarnishment 0 0 0", "closeclose", "x", "z", "`", "{", "A", "0", "~"};
        for (String text : none) {
            check.same("41: \"" + text + "\"", execute(text), -100);
            check.same("41: \"days 0 0 0;" + text + "\"", execute("days 0 0 0;" + text), -111);
        }
        check.same("41: a word ends before a capital letter", execute("closE"), -100);
        check.same("41: behind a word, a capital letter", execute("closeE"), -105);
        check.same("41: behind a word, a digit", execute("close5"), -105);
        check.same("41: behind a word, the sign before a", execute("close`"), -105);
        check.same("41: behind a word, the sign behind z", execute("close{"), -105);
    }

    private static void endsTooEarly() {
        String text = "salary 0 1 2;move 1 2 3";
        for (int length = 0; length < text.length(); length++) {
            String part = text.substring(0, length);
            int error = length < 6 ? 0 : length > 13 && length < 17 ? 13 : length;
            boolean whole = length == 12;
            check.same("41: \"" + part + "\"", execute(part), whole ? 1 : -100 - error);
        }
    }

    private static void sixtyCharactersThatEndTooEarly() {
        String nine = "close;close;close;close;close;close;close;close;close;";
        check.same("41: 60 characters, a semicolon at the end", execute(nine + "close;"), -160);
        check.same("41: 60 characters, a blank at the end", execute(nine + "close "), -159);
        check.same("41: 60 characters, a word that is none", execute(nine + "closed"), -154);
        check.same("41: 60 characters, a number is missing", execute(nine + "cap 0 "), -160);
        check.same("41: 60 characters, a number ends there", execute("close;close;close;close;close;close;close;close;"
            + "cap 0 000000"), -159);
        check.same("41: 60 characters without an error", execute("close;close;close;close;close;close;close;close;"
            + "cap 00 00001"), 9);
        check.same("41: 60 characters, many zeros", execute("days 00000 00000 00000;days 00000 00001 00000;"
            + "days 0 2 00000"), 3);
    }

    private static void theMostCommands() {
        PayrollRun run = new PayrollRun();
        check.same("41: one", Check.execute(run, "close"), 1);
        check.same("41: ten", Check.execute(run, "close;close;close;close;close;close;close;close;close;close"), 10);
        check.same("16: eleven are closed", run.closed(), 11);
        String seven = "cap 0 0;cap 0 1;cap 0 2;cap 0 3;cap 0 4;cap 0 5;cap 0 6";
        check.same("41: seven with numbers", Check.execute(run, seven), 7);
        check.same("18: the last of them", run.setting(2, 0), 6);
    }

    private static void theEmptyBufferAfterwards() {
        String[] texts = {"close", "", "closed", "close;", "rate 2 0", "close;rate 2 0", "close 0"};
        for (String text : texts) {
            PayrollRun run = new PayrollRun();
            Check.execute(run, text);
            check.same("41: empty after \"" + text + "\"", run.feed('x'), 1);
        }
        PayrollRun run = new PayrollRun();
        for (int i = 0; i < 60; i++) {
            run.feed('x');
        }
        run.execute();
        check.same("41: empty after sixty characters", run.feed('c'), 1);
        Check.feed(run, "lose");
        check.same("41: only what was fed since", run.execute(), 1);
        Check.feed(run, "days 0");
        run.execute();
        Check.feed(run, " 0 5");
        check.same("41: nothing is left of the text before", run.execute(), -100);
    }

    /** BAD, NONE and FULL of each method that a command can call. */
    private static void eachCodeOfACommand() {
        String[] bad = {"salary 3 0 0", "salary 0 12 0", "salary 0 0 10000", "days 3 0 0", "days 0 12 0", "days 0 0 31",
            "bonus 3 0 0", "bonus 0 12 0", "bonus 0 0 10000", "floor 3 0", "floor 0 10000", "rate 2 0", "rate 0 500",
            "cap 2 0", "bracket 0 1000", "fixed 3 1 1", "fixed 0 0 1", "fixed 0 10000 1", "fixed 0 1 0",
            "share 3 1 1", "share 0 0 1", "share 0 1001 1", "share 0 1 0", "drop 3 0", "drop 0 0", "move 3 0 0",
            "move 0 0 0", "bracket 5 0;bracket 5 0"};
        for (String text : bad) {
            int at = text.lastIndexOf(';') + 1;
            check.same("41: \"" + text + "\"", execute(text), -200 - at);
        }
        String[] good = {"salary 2 11 9999", "days 2 11 30", "bonus 2 11 9999", "floor 2 9999", "rate 1 499",
            "cap 1 99999", "bracket 99999 999", "fixed 2 9999 99999", "share 2 1000 99999", "salary 0 0 0",
            "days 0 0 0", "bonus 0 0 0", "floor 0 0", "rate 0 0", "cap 0 0", "bracket 0 0", "fixed 0 1 1",
            "share 0 1 1", "fixed 0 1 1;drop 0 0", "fixed 0 1 1;move 0 0 0"};
        for (String text : good) {
            check.same("41: \"" + text + "\"", execute(text), text.contains(";") ? 2 : 1);
        }
        PayrollRun run = States.FULL.make();
        run.execute();
        check.same("41: FULL of bracket", Check.execute(run, "bracket 99999 0"), -200);
        check.same("41: FULL of fixed", Check.execute(run, "fixed 0 1 1"), -200);
        check.same("41: FULL of share", Check.execute(run, "rate 0 0;share 2 1 1"), -209);
        check.same("41: NONE of close", Check.execute(run, "rate 0 0;rate 1 0;close"), -218);
    }

    private static void theFirstCommandThatFails() {
        check.same("41: the first", execute("rate 2 0;rate 2 0"), -200);
        check.same("41: the second of three", execute("rate 0 0;rate 2 0;rate 2 0"), -209);
        check.same("41: the last", execute("rate 0 0;rate 1 0;rate 2 0"), -218);
        check.same("41: at the end of the buffer", execute("close;close;close;close;close;close;close;close;cap 2 0"),
            -248);
    }

    private static void theTextComesBeforeTheCommands() {
        PayrollRun run = new PayrollRun();
        check.same("41: both errors", Check.execute(run, "rate 2 0;"), -109);
        check.same("41: both errors, far behind", Check.execute(run, "rate 2 0;close;close;close;closed"), -127);
        check.same("41: nothing was done", run.closed(), 0);
        check.same("41: nothing to undo", run.undo(), NONE);
    }

    private static void commandsSeeTheOnesBefore() {
        check.same("41: a garnishment that the text adds", execute("fixed 0 1 1;share 0 2 2;move 0 1 0;drop 0 1"), 4);
        check.same("41: and that it removes", execute("fixed 0 1 1;drop 0 0;drop 0 0"), -221);
        check.same("41: three and no more", execute("fixed 0 1 1;fixed 0 1 1;fixed 0 1 1;fixed 0 1 1"), -236);
        check.same("41: five brackets", execute("bracket 0 1;bracket 1 1;bracket 2 1;bracket 3 1;bracket 4 1"), 5);
        PayrollRun run = new PayrollRun();
        for (int i = 0; i < 4; i++) {
            run.bracket(i, 1);
        }
        check.same("41: a sixth bracket", Check.execute(run, "bracket 4 1;bracket 5 1"), -212);
        check.same("8: four are left", run.setting(5, 0), 4);
        check.same("41: seven months", Check.execute(run, "close;close;close;close;close;close;close"), 7);
        check.same("41: five are left", Check.execute(run, "close;close;close;close;close;close"), -230);
        check.same("16: seven are closed", run.closed(), 7);
    }

    private static void inTheirOrder() {
        PayrollRun run = new PayrollRun();
        Check.execute(run, "salary 0 0 50;close;salary 0 0 60;close");
        check.same("41: closed with the salary before", run.settled(0, 1, 0), 60000000L);
        check.same("41: which was corrected", run.amount(0, 1, 4), 10000000L);
        Check.execute(run, "salary 0 5 7;salary 0 0 9");
        check.same("2: the later one is for all months", run.data(0, 5, 0), 9);
        Check.execute(run, "salary 0 0 9;salary 0 5 7");
        check.same("2: and now for the later ones", run.data(0, 5, 0) * 10 + run.data(0, 4, 0), 79);
    }

    private static void oneChange() {
        PayrollRun run = new PayrollRun();
        run.bonus(0, 0, 3);
        Check.execute(run, "cap 0 0;cap 0 1;cap 0 2;cap 0 3;cap 0 4;cap 0 5;cap 0 6");
        check.same("44: seven commands, one change", run.undo(), 1);
        check.same("18: all are undone", run.setting(2, 0), 99999);
        check.same("17: the change before is not", run.data(0, 0, 2), 3);
        check.same("44: until it is", run.undo(), 0);
    }
}
