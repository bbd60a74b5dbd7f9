import java.util.NoSuchElementException;

/** Promises 48 to 54: output and scripts. */
public final class ScriptsTest {
    public static void main(String[] args) {
        renderColumn();
        renderEntry();
        outputAt();
        type();
        eachCommand();
        longScripts();
        allOrNothing();
        failingCommands();
        formsThatFit();
        formsThatDoNotFit();
        errorPositionStays();
        Check.finish();
    }

    private static void renderColumn() {
        CircusLedger c = Make.weakFour();
        rendered(c, 15, "3(160/300) 1(90/20)! 2(40/10) 0(0/0)");
        rendered(c, 1, "0(0/0)");
        rendered(c, 13, "3(90/300) 2(40/10)! 0(0/0)");
        rendered(c, 10, "3(70/300) 1(0/20)");
        rendered(Make.strongSix(), 63,
                "0(250/400) 1(200/400) 2(150/400) 3(100/400) 4(50/400) 5(0/400)");
    }

    private static void rendered(CircusLedger c, int set, String due) {
        int length = c.renderColumn(set);
        Check.same("48 length of " + due, due.length(), length);
        Check.same("48 column", due, Make.output(c, length));
    }

    private static void renderEntry() {
        CircusLedger c = Make.strongSix();
        c.post(0, 2, 45);
        c.post(10, 9, 9999);
        Check.same("49 length", 6, c.renderEntry(0));
        Check.same("49 entry", "0>2=45", Make.output(c, 6));
        Check.same("49 long one", 9, c.renderEntry(1));
        Check.same("49 long entry", "10>9=9999", Make.output(c, 9));
    }

    private static void outputAt() {
        CircusLedger c = Make.weakFour();
        c.post(0, 2, 45);
        Class<IndexOutOfBoundsException> index = IndexOutOfBoundsException.class;
        Check.refused("50 empty", index, () -> c.outputAt(0));
        c.renderColumn(15);
        c.renderEntry(0);
        Check.same("50 first", '0', c.outputAt(0));
        Check.same("50 last", '5', c.outputAt(5));
        Check.refused("50 the older text is gone", index, () -> c.outputAt(6));
        Check.refused("50 negative", index, () -> c.outputAt(-1));
        Check.refused("50 least", index, () -> c.outputAt(Integer.MIN_VALUE));
        Check.refused("49 no such entry", index, () -> c.renderEntry(1));
        Check.refused("48 no such set", IllegalArgumentException.class, () -> c.renderColumn(0));
        Check.same("50 the text stays", "0>2=45", Make.output(c, 6));
        c.undo();
        Check.same("50 undo leaves the text", '>', c.outputAt(1));
        c.save();
        c.renderColumn(8);
        c.restore();
        Check.same("50 restore leaves the text", "3(0/300)", Make.output(c, 8));
    }

    private static void type() {
        CircusLedger c = new CircusLedger();
        Class<IllegalArgumentException> argument = IllegalArgumentException.class;
        Check.same("51 least", 1, c.type((char) 32));
        Check.same("51 greatest", 2, c.type((char) 126));
        for (int code : new int[] {0, 10, 31, 127, 160, 255, 65535}) {
            Check.refused("51 code " + code, argument, () -> c.type((char) code));
        }
        Check.same("51 nothing was appended", 3, c.type('x'));
        for (int length = 4; length <= 60; length++) {
            Check.same("51 length " + length, length, c.type('y'));
        }
        Check.refused("51 full", IllegalStateException.class, () -> c.type('z'));
        Check.refused("51 argument before full", argument, () -> c.type((char) 31));
        Check.refused("52 not a script", argument, c::runScript);
        Check.same("51 empty again", 1, c.type('a'));
    }

    private static void eachCommand() {
        CircusLedger c = new CircusLedger();
        Check.same("52 acrobat", 1, Make.run(c, "acrobat 60 200 180 9"));
        Check.same("52 weight", 60, c.weight(0));
        Check.same("52 strength", 200, c.strength(0));
        Check.same("52 height", 180, c.height(0));
        Check.same("52 wage", 9, c.wage(0));
        Check.same("52 post", 1, Make.run(c, "post 0>2 50"));
        Check.same("52 entry", "0>2=50", Make.output(c, c.renderEntry(0)));
        Check.same("52 pay", 1, Make.run(c, "pay 0 7"));
        Check.same("52 paid", "5>0=7", Make.output(c, c.renderEntry(1)));
        Check.same("52 show", 1, Make.run(c, "show 0"));
        Check.same("52 shown", 1, c.showTotal());
        Check.same("52 net", 1, Make.run(c, "net 5"));
        Check.same("52 width", 5, c.net());
        Check.same("52 night", 1, Make.run(c, "night"));
        Check.same("52 one night", 2, c.night());
        Check.same("52 nights", 1, Make.run(c, "night 0099"));
        Check.same("52 many nights", 101, c.night());
        Check.same("52 cancel", 1, Make.run(c, "cancel 2 4"));
        Check.same("52 cancelled", 0, c.balance(4));
        Check.same("52 close", 1, Make.run(c, "close"));
        Check.same("52 closed", 0, c.entryCount());
    }

    private static void longScripts() {
        CircusLedger c = Make.weakFour();
        Check.same("52 ten commands", 10, Make.run(c, "net 1;net 2;net 3;close;night;net 4;night;close;net 5;net 1"));
        Check.same("52 the last one counts", 1, c.net());
        Check.same("52 two nights", 2, c.night());
        Check.same("55 one change", 4, c.undo());
        Check.same("55 all of it", 0, c.night());
        Check.same("52 a show of all", 1, Make.run(c, "show 0123"));
        Check.same("52 they fell", 2, c.fallenTotal());
        Check.same("52 sixty characters", 4,
                Make.run(c, "post 0000>0002 0050;post 0000>0002 0050;close;post 0>02 0050"));
        Check.same("52 all of them", 150, c.balance(0));
    }

    private static void allOrNothing() {
        CircusLedger c = Make.funded(Make.weakFour(), 30, 0);
        String before = Make.state(c);
        Check.refused("52 fails", IllegalStateException.class,
                () -> Make.run(c, "net 3;show 0123;pay 0 5;post 0>2 9;night 9;pay 3 99"));
        Check.same("52 no command took effect", before, Make.state(c));
        Check.same("54 the last one", 5, c.failedCommand());
        Check.same("52 the buffer is empty", 1, c.type('n'));
        Check.same("52 no change", 5, c.undo());
        CircusLedger counted = new CircusLedger();
        for (int width = 0; width < 8; width++) {
            counted.setNet(width % 6);
        }
        Check.refused("52 fails again", IllegalStateException.class, () -> Make.run(counted, "net 4;net 9"));
        Check.same("54 the second", 1, counted.failedCommand());
        Check.same("52 the net stays", 1, counted.net());
        for (int left = 7; left >= 0; left--) {
            Check.same("55 all changes are still there", left, counted.undo());
        }
        Check.same("55 the first net", 0, counted.net());
    }

    private static void failingCommands() {
        CircusLedger c = Make.evenTrio();
        Check.refused("54 none yet", NoSuchElementException.class, c::failedCommand);
        String[] scripts = {"acrobat 29 0 100 1", "acrobat 60 401 100 1", "acrobat 60 0 99 1", "acrobat 60 0 100 51",
            "post 0>8 5", "post 9999>0 5", "post 2>2 5", "post 2>3 0", "post 2>0 1", "pay 3 1", "pay 0 0", "pay 0 1",
            "pay 9 1", "show 3", "show 0123456789", "net 6", "night 0", "night 100", "cancel 0 8", "cancel 0 1"};
        String before = Make.state(c);
        for (String script : scripts) {
            Check.refused("52 " + script, IllegalStateException.class, () -> Make.run(c, script));
            Check.same("54 " + script, 0, c.failedCommand());
            Check.refused("52 night; " + script, IllegalStateException.class, () -> Make.run(c, "night;" + script));
            Check.same("54 night; " + script, 1, c.failedCommand());
        }
        Check.same("52 nothing changed", before, Make.state(c));
        Check.same("52 later one", 1, Make.run(c, "night"));
        Check.same("54 stays", 1, c.failedCommand());
        c.undo();
        Check.same("54 undo leaves it", 1, c.failedCommand());
        Check.refused("53 none yet", NoSuchElementException.class, c::errorPosition);
    }

    private static void formsThatFit() {
        String[] scripts = {"post 0>2 5", "post 00>02 05", "post 0000>0002 9999", "net 0", "night", "night 1",
            "night;night", "night 1;night", "close;close", "acrobat 0060 0200 0180 0009", "net 5;close;net 1"};
        for (String script : scripts) {
            CircusLedger c = new CircusLedger();
            Check.same("52 " + script, script.split(";").length, Make.run(c, script));
        }
    }

    private static void formsThatDoNotFit() {
        wrong("", 0);
        wrong(" ", 0);
        wrong(";", 0);
        wrong("x", 0);
        wrong("1", 0);
        wrong("Night", 0);
        wrong("a", 1);
        wrong("acrobats 1 1 1 1", 7);
        wrong("acrobat", 7);
        wrong("acrobat 1 1 1", 13);
        wrong("acrobat 1 1 1;", 13);
        wrong("acrobat 1 1 1 ", 14);
        wrong("acrobat 1 1 1 1 ", 15);
        wrong("acrobat 10000 1 1 1", 12);
        wrong("acrobat  1 1 1 1", 8);
        wrong("p", 1);
        wrong("pi", 1);
        wrong("po", 2);
        wrong("poet", 2);
        wrong("pan", 2);
        wrong("post 0-2 5", 6);
        wrong("post 0>2", 8);
        wrong("post 0>2>5", 8);
        wrong("post >2 5", 5);
        wrong("post 0> 5", 7);
        wrong("post 12345>2 5", 9);
        wrong("pay 12 3", 5);
        wrong("pay x", 4);
        wrong("pay 1 ", 6);
        wrong("pay 1 12345", 10);
        wrong("show", 4);
        wrong("show ", 5);
        wrong("show x", 5);
        wrong("show 11", 6);
        wrong("show 10", 6);
        wrong("show 0123456789:", 15);
        wrong("show 01234567899", 15);
        wrong("show 0 1", 6);
        wrong("show 0;", 7);
        wrong("show 0;;", 7);
        wrong("n", 1);
        wrong("no", 1);
        wrong("ne", 2);
        wrong("ni", 2);
        wrong("net", 3);
        wrong("net ", 4);
        wrong("net ;", 4);
        wrong("pay  5", 4);
        wrong("pay ", 4);
        wrong("net 10", 5);
        wrong("net -1", 4);
        wrong("nigh", 4);
        wrong("nights", 5);
        wrong("night ", 6);
        wrong("night  1", 6);
        wrong("night x", 6);
        wrong("night;", 6);
        wrong("night 1 ", 7);
        wrong("c", 1);
        wrong("cx", 1);
        wrong("closed", 5);
        wrong("close ", 5);
        wrong("clos;", 4);
        wrong("cab", 2);
        wrong("cancel 1", 8);
        wrong("cancel 1 2 3", 10);
        wrong("close;night 1;show 21", 20);
        wrong("close;close;close;close;close;close;close;close;close;close;", 60);
        wrong("close;close;close;close;close;close;close;close;close;closed", 59);
        wrong("acrobat 1000 1000 1000 1000;acrobat 1000 1000 1000 1000;post", 60);
        wrong("net 1;net 2;net 3;net 4;net 5;net 6;net 7;net 8;net 9;net 0x", 59);
    }

    private static void wrong(String script, int due) {
        CircusLedger c = Make.weakFour();
        String before = Make.state(c);
        Check.refused("52 '" + script + "'", IllegalArgumentException.class, () -> Make.run(c, script));
        Check.same("53 '" + script + "'", due, c.errorPosition());
        Check.same("52 nothing changed", before, Make.state(c));
        Check.refused("54 no command failed", NoSuchElementException.class, c::failedCommand);
        Check.same("52 the buffer is empty", 1, c.type('n'));
        Check.same("52 no change", 3, c.undo());
    }

    private static void errorPositionStays() {
        CircusLedger c = new CircusLedger();
        Check.refused("53 wrong", IllegalArgumentException.class, () -> Make.run(c, "net x"));
        Check.same("53 position", 4, c.errorPosition());
        Make.run(c, "net 3");
        Check.same("53 after a script that fits", 4, c.errorPosition());
        Check.refused("52 fails", IllegalStateException.class, () -> Make.run(c, "net 3;net 7"));
        Check.same("53 after a failed command", 4, c.errorPosition());
        c.undo();
        Check.same("53 after undo", 4, c.errorPosition());
        c.save();
        Check.refused("53 wrong again", IllegalArgumentException.class, () -> Make.run(c, "night;"));
        Check.refused("52 fails again", IllegalStateException.class, () -> Make.run(c, "net 7"));
        c.restore();
        Check.same("53 the latest one", 6, c.errorPosition());
        Check.same("54 the latest one", 0, c.failedCommand());
        c.type('c');
        c.setNet(4);
        c.undo();
        c.restore();
        Check.same("51 undo and restore leave the buffer", 2, c.type('l'));
    }
}
