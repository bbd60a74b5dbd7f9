import java.util.NoSuchElementException;

/** The sentences on scripts that name a boundary case, and each way in which a script is refused. */
public final class ScriptEdgesTest {
    private static final Class<IllegalArgumentException> ARGUMENT = IllegalArgumentException.class;
    private static final Class<IllegalStateException> STATE = IllegalStateException.class;

    /** Scripts of the form with each command, numbers of one to four digits, and parts left out. */
    private static final String[] FORMS = {"acrobat 60 200 180 9;close", "acrobat 0060 0200 0180 0009",
        "post 0>2 5;post 1>2 9999", "pay 3 12;net 5", "show 0123456789;night", "night 1;night;night 0099",
        "cancel 8 2;cancel 0000 0012", "net 0;pay 9 1;show 5"};

    public static void main(String[] args) {
        theBufferTakesSixtyCharacters();
        theBufferTakesCodes32To126();
        theBufferIsEmptyAfterwards();
        numbersHaveOneToFourDigits();
        showDigitsRise();
        nightWithoutNumberPassesOne();
        everyBeginningThatEndsTooEarly();
        everyCharacterBehindEveryBeginning();
        formsThatAreRefused();
        commandsThatFail();
        eachPositionOfAFailedCommand();
        theFormComesBeforeTheCommands();
        laterCommandsSeeTheEarlierOnes();
        theNumberOfCommands();
        errorPositionAndFailedCommandAreOfTheLatest();
        Check.finish();
    }

    private static CircusLedger lively() {
        return Make.lively("");
    }

    private static void theBufferTakesSixtyCharacters() {
        String script = "post 0000>0002 0050;post 0000>0002 0050;close;post 0>02 0050";
        CircusLedger c = new CircusLedger();
        for (int i = 0; i < 60; i++) {
            Check.same("51 length", i + 1, c.type(script.charAt(i)));
        }
        Check.refused("51 the 61st", STATE, () -> c.type('0'));
        Check.same("52 sixty characters", 4, c.runScript());
        Check.same("52 all of them were read", 150, c.balance(0));
        Check.same("51 empty again", 1, c.type('n'));
        CircusLedger full = lively();
        for (int i = 0; i < 60; i++) {
            full.type('n');
        }
        Check.refused("52 sixty wrong ones", ARGUMENT, full::runScript);
        Check.same("53 sixty wrong ones", 1, full.errorPosition());
        Check.same("51 sixty fit again", 60, typed(full, script));
    }

    private static int typed(CircusLedger c, String script) {
        int length = 0;
        for (int i = 0; i < script.length(); i++) {
            length = c.type(script.charAt(i));
        }
        return length;
    }

    private static void theBufferTakesCodes32To126() {
        for (int code = 32; code <= 126; code++) {
            Check.same("51 code " + code, 1, new CircusLedger().type((char) code));
        }
    }

    private static void theBufferIsEmptyAfterwards() {
        for (String script : new String[] {"net 3", "net 9", "net x", ""}) {
            CircusLedger c = new CircusLedger();
            Make.type(c, script);
            Check.outcome(c::runScript);
            Check.same("52 empty after '" + script + "'", 5, typed(c, "night"));
            Check.same("52 only the new script after '" + script + "'", 1, c.runScript());
        }
    }

    private static void numbersHaveOneToFourDigits() {
        String[] before = {"acrobat ", "acrobat 60 ", "acrobat 60 200 ", "acrobat 60 200 180 ", "post ", "post 0>",
            "post 0>2 ", "pay 0 ", "night ", "cancel ", "cancel 0 "};
        for (String start : before) {
            position(start, start.length());
            position(start + ";", start.length());
            for (String digits : new String[] {"1", "12", "123", "1234", "0000"}) {
                position(start + digits + "x", start.length() + digits.length());
            }
            position(start + "12345", start.length() + 4);
            position(start + "00001", start.length() + 4);
        }
        Check.same("52 zeros in front", 1, Make.run(new CircusLedger(), "post 0000>0002 0001"));
        Check.same("52 the greatest number", 1, Make.run(new CircusLedger(), "post 0>2 9999"));
        CircusLedger c = new CircusLedger();
        Make.run(c, "acrobat 0120 0400 0200 0050");
        Check.same("52 all digits count", "120,400,200,50",
                c.weight(0) + "," + c.strength(0) + "," + c.height(0) + "," + c.wage(0));
    }

    private static void position(String script, int due) {
        CircusLedger c = Make.weakFour();
        Check.refused("52 '" + script + "'", ARGUMENT, () -> Make.run(c, script));
        Check.same("53 '" + script + "'", due, c.errorPosition());
    }

    /** Two digits of each kind: they do not rise, or someone is not there, or the two give a show. */
    private static void showDigitsRise() {
        for (int first = 0; first <= 9; first++) {
            for (int second = 0; second <= 9; second++) {
                String script = "show " + first + second;
                CircusLedger c = Make.strongSix();
                if (second <= first) {
                    position(script, 6);
                } else if (second > 5) {
                    Check.refused("52 " + script, STATE, () -> Make.run(c, script));
                    Check.same("54 " + script, 0, c.failedCommand());
                } else {
                    Check.same("52 " + script, 1, Make.run(c, script));
                    Check.same("5 " + script, 3, c.entryCount());
                    Check.same("5 first of " + script, 5 + first, c.creditOf(1));
                    Check.same("5 second of " + script, 5 + second, c.creditOf(2));
                }
            }
            position("show 9" + first, 6);
        }
        CircusLedger all = Make.strongSix();
        Check.same("52 all six", 1, Make.run(all, "show 012345"));
        Check.same("5 all six", 7, all.entryCount());
        position("show 0123456789;show 01234567890", 31);
        position("show ", 5);
        position("show", 4);
    }

    private static void nightWithoutNumberPassesOne() {
        CircusLedger c = new CircusLedger();
        Make.run(c, "night");
        Check.same("52 one night", 1, c.night());
        Make.run(c, "night;night 2;night");
        Check.same("52 one, two and one", 5, c.night());
        Make.run(c, "night 99");
        Check.same("52 ninety-nine", 104, c.night());
        Twin.refusesScript("52 night 0", STATE, Twin.View.FAILED_COMMAND, 0, ScriptEdgesTest::lively, "night 0");
        Twin.refusesScript("52 night 100", STATE, Twin.View.FAILED_COMMAND, 0, ScriptEdgesTest::lively, "night 100");
    }

    /** The end of a script that is the beginning of one comes too early at its length. */
    private static void everyBeginningThatEndsTooEarly() {
        for (String form : FORMS) {
            for (int length = 0; length <= form.length(); length++) {
                String script = form.substring(0, length);
                CircusLedger c = Make.strongSix();
                String outcome = Check.outcome(() -> Make.run(c, script));
                if (outcome.equals("throws java.lang.IllegalArgumentException")) {
                    Check.same("53 '" + script + "' ends too early", length, c.errorPosition());
                } else {
                    Check.same("52 '" + script + "' has the form", true, hasForm(script));
                    Check.refused("53 '" + script + "'", NoSuchElementException.class, c::errorPosition);
                }
            }
        }
    }

    private static boolean hasForm(String script) {
        String number = "[0-9]{1,4}";
        String command = ("acrobat N N N N|post N>N N|pay [0-9] N|show [0-9]+|net [0-9]|night( N)?|close|cancel N N")
                .replace("N", number);
        return script.matches("(" + command + ")(;(" + command + "))*");
    }

    /** Behind each beginning of a script, each character that can be typed goes on or is the error. */
    private static void everyCharacterBehindEveryBeginning() {
        for (String form : FORMS) {
            for (int length = 0; length <= form.length(); length++) {
                for (char sign = ' '; sign <= '~'; sign++) {
                    sameAsTheReference(form.substring(0, length) + sign);
                }
            }
        }
    }

    private static void sameAsTheReference(String script) {
        CircusLedger program = new CircusLedger();
        ReferenceCircus reference = new ReferenceCircus();
        Make.type(program, script);
        for (int i = 0; i < script.length(); i++) {
            reference.type(script.charAt(i));
        }
        Check.same("52 '" + script + "'", Check.outcome(reference::runScript), Check.outcome(program::runScript));
        Check.same("53 '" + script + "'", Check.outcome(reference::errorPosition),
                Check.outcome(program::errorPosition));
        Check.same("54 '" + script + "'", Check.outcome(reference::failedCommand),
                Check.outcome(program::failedCommand));
    }

    private static void formsThatAreRefused() {
        refusedForm("", 0);
        refusedForm(" ", 0);
        refusedForm(";", 0);
        refusedForm("Close", 0);
        refusedForm("night;", 6);
        refusedForm("night; close", 6);
        refusedForm("night ;close", 6);
        refusedForm("close ", 5);
        refusedForm("close;;close", 6);
        refusedForm("net 5 ", 5);
        refusedForm("net 55", 5);
        refusedForm("pay 10 5", 5);
        refusedForm("post 0> 2 5", 7);
        refusedForm("post 0>2  5", 9);
        refusedForm("post -1>2 5", 5);
        refusedForm("acrobat 60,200", 10);
        refusedForm("cancel 1>2", 8);
        refusedForm("show 3 4", 6);
        refusedForm("night 5;net 1;post 0>2 70;net x", 30);
        refusedForm("close;close;close;close;close;close;close;close;close;close;", 60);
        refusedForm("acrobat 1000 1000 1000 1000;acrobat 1000 1000 1000 1000;post", 60);
    }

    private static void refusedForm(String script, int position) {
        Twin.refusesScript("52 '" + script + "'", ARGUMENT, Twin.View.ERROR_POSITION, position,
                ScriptEdgesTest::lively, script);
    }

    /** Each exception that the method of a command may throw makes the script fail. */
    private static void commandsThatFail() {
        Twin.Recipe lively = ScriptEdgesTest::lively;
        String[] commands = {"acrobat 29 200 150 25", "acrobat 121 200 150 25", "acrobat 60 401 150 25",
            "acrobat 60 200 99 25", "acrobat 60 200 201 25", "acrobat 60 200 150 0", "acrobat 60 200 150 51",
            "post 9>2 5", "post 2>9 5", "post 9999>2 5", "post 2>2 5", "post 3>2 0", "post 4>0 27", "post 4>1 6",
            "pay 4 5", "pay 9 5", "pay 2 0", "pay 2 27", "show 4", "show 9", "show 34", "show 0", "show 0123", "net 6",
            "net 9", "night 0", "night 100", "night 9999", "cancel 9 2", "cancel 0 9", "cancel 0 3", "cancel 2 6",
            "cancel 0 4", "cancel 3 3"};
        for (String command : commands) {
            failed(command, 0, lively, command);
            failed("close; " + command, 1, lively, "close;" + command);
            failed("four before " + command, 4, lively, "net 4;close;post 3>2 1;net 5;" + command);
        }
        failed("seventh acrobat", 2, () -> {
            CircusLedger circus = Make.lively("");
            circus.addAcrobat(60, 200, 150, 25);
            return circus;
        }, "acrobat 60 200 150 25;net 5;acrobat 60 200 150 25");
        Twin.Recipe full = () -> Make.withEntries(Make.lively(""), 59);
        failed("full for post", 1, full, "post 0>2 1;post 0>2 1");
        failed("full for pay", 1, full, "pay 2 1;pay 2 1");
        failed("full for cancel", 1, full, "cancel 0 2;cancel 1 2");
        failed("full for a show", 1, full, "night;show 3");
    }

    private static void failed(String what, int index, Twin.Recipe recipe, String script) {
        Twin.refusesScript("52 " + what, STATE, Twin.View.FAILED_COMMAND, index, recipe, script);
    }

    private static void eachPositionOfAFailedCommand() {
        for (int index = 0; index < 10; index++) {
            StringBuilder script = new StringBuilder();
            for (int i = 0; i < 10; i++) {
                script.append(i == 0 ? "" : ";").append(i == index ? "net 6" : "net " + i % 6);
            }
            Twin.refusesScript("52 command " + index, STATE, Twin.View.FAILED_COMMAND, index, ScriptEdgesTest::lively,
                    script.toString());
        }
        Twin.refusesScript("52 the first of two that fail", STATE, Twin.View.FAILED_COMMAND, 1, ScriptEdgesTest::lively,
                "net 5;net 6;net 7");
    }

    /** IllegalArgumentException is listed first, and no command is tried then. */
    private static void theFormComesBeforeTheCommands() {
        refusedForm("net 6;x", 6);
        refusedForm("net 5;net 6;net", 15);
        refusedForm("show 9;show 98", 13);
    }

    private static void laterCommandsSeeTheEarlierOnes() {
        CircusLedger c = Make.withEntries(new CircusLedger(), 60);
        Check.same("52 closing makes room", 2, Make.run(c, "close;post 0>2 9"));
        Check.same("52 one entry", 1, c.entryCount());
        Check.same("52 an acrobat is paid at once", 2, Make.run(c, "acrobat 60 0 100 9;pay 0 9"));
        Check.same("52 paid", 9, c.balance(5));
        CircusLedger pair = Make.helpless(2);
        Check.refused("52 injured in between", STATE, () -> Make.run(pair, "show 01;night;show 1"));
        Check.same("54 injured in between", 2, pair.failedCommand());
        Check.same("41 no night has passed", 0, pair.night());
        Check.same("52 fit in between", 3, Make.run(pair, "show 01;night 2;show 1"));
        Check.same("43 two shows", 2, pair.showTotal());
    }

    private static void theNumberOfCommands() {
        StringBuilder script = new StringBuilder();
        for (int count = 1; count <= 10; count++) {
            script.append(count == 1 ? "" : ";").append("night");
            CircusLedger c = new CircusLedger();
            Check.same("52 commands", count, Make.run(c, script.toString()));
            Check.same("41 nights", count, c.night());
            Check.same("55 one change", 0, c.undo());
            Check.same("41 all undone", 0, c.night());
        }
    }

    private static void errorPositionAndFailedCommandAreOfTheLatest() {
        CircusLedger c = new CircusLedger();
        Check.outcome(() -> Make.run(c, "net 12"));
        Check.same("53 first", 5, c.errorPosition());
        Check.outcome(() -> Make.run(c, "net 1;net 2;net 6"));
        Check.same("54 first", 2, c.failedCommand());
        Check.same("53 stays when a command fails", 5, c.errorPosition());
        Check.outcome(() -> Make.run(c, ""));
        Check.same("53 latest, at 0", 0, c.errorPosition());
        Check.same("54 stays when the form is wrong", 2, c.failedCommand());
        Check.outcome(() -> Make.run(c, "net 6"));
        Check.same("54 latest, at 0", 0, c.failedCommand());
        Make.run(c, "net 5");
        Check.same("53 stays when all take effect", 0, c.errorPosition());
        Check.same("54 stays when all take effect", 0, c.failedCommand());
    }
}
