/** Makes circuses for the tests. */
final class Make {
    private Make() {
    }

    /**
     * Three acrobats: 0 (60 kg, carries 90, 150 cm, wage 10), 1 (60, 90, 160, 20), 2 (30, 120, 170, 5).
     * All three sums of weight and strength are 150, so the lower index stands lower, and all columns stand.
     */
    static CircusLedger evenTrio() {
        CircusLedger circus = new CircusLedger();
        circus.addAcrobat(60, 90, 150, 10);
        circus.addAcrobat(60, 90, 160, 20);
        circus.addAcrobat(30, 120, 170, 5);
        return circus;
    }

    /**
     * Four acrobats, in the column of all from the lowest: 3 (carries 300), 1 (20), 2 (10), 0 (0);
     * acrobat 1 is the overloaded one, so that two fall.
     */
    static CircusLedger weakFour() {
        CircusLedger circus = new CircusLedger();
        circus.addAcrobat(40, 0, 101, 1);
        circus.addAcrobat(70, 20, 112, 2);
        circus.addAcrobat(50, 10, 123, 3);
        circus.addAcrobat(80, 300, 134, 4);
        return circus;
    }

    /** Six acrobats of equal measure who all carry everyone. */
    static CircusLedger strongSix() {
        CircusLedger circus = new CircusLedger();
        for (int i = 0; i < 6; i++) {
            circus.addAcrobat(50, 400, 105 + i, 10 + i);
        }
        return circus;
    }

    /**
     * A circus in which every part holds something, with the first four acrobats as weakFour makes them: the column
     * of all has fallen, acrobat 0 is injured for one more night, and eight changes can be undone (the latest one sets
     * the net). Balances: cash 26, reserve 5, takings -60, damages 20, wages 0, acrobats 0, -8, 8 and 9. Journal:
     * "3>1=20", "8>0=9", "7>6=8". The output text is "8>0=9", the error position 4, the failed command 1, and the
     * script "net 3;night" is typed but not run. The snapshot was taken on night 1.
     */
    static CircusLedger lively() {
        return lively("net 3;night");
    }

    static CircusLedger lively(String script) {
        CircusLedger circus = funded(weakFour(), 35, 25);
        circus.setNet(1);
        circus.show(15);
        circus.save();
        circus.payOut(3, 9);
        Check.outcome(() -> run(circus, "net x"));
        Check.outcome(() -> run(circus, "night;net 9"));
        circus.passNights(1);
        circus.post(7, 6, 8);
        circus.closeBooks();
        circus.undo();
        circus.setNet(2);
        circus.renderEntry(1);
        type(circus, script);
        return circus;
    }

    /** The lively circus with a journal that is full up to a number of entries. */
    static CircusLedger livelyWithEntries(int entries) {
        return withEntries(lively(), entries);
    }

    /** The lively circus with two more acrobats, who are as strong as they may be. */
    static CircusLedger livelySix() {
        CircusLedger circus = lively();
        circus.addAcrobat(120, 400, 200, 50);
        circus.addAcrobat(120, 400, 200, 50);
        return circus;
    }

    /** The circus of a number of acrobats, none of whom can carry anyone. */
    static CircusLedger helpless(int acrobats) {
        CircusLedger circus = new CircusLedger();
        for (int i = 0; i < acrobats; i++) {
            circus.addAcrobat(30, 0, 100, 1);
        }
        return circus;
    }

    /** A circus with coins in cash and in the reserve, both against takings. */
    static CircusLedger funded(CircusLedger circus, int cash, int reserve) {
        if (cash > 0) {
            circus.post(0, 2, cash);
        }
        if (reserve > 0) {
            circus.post(1, 2, reserve);
        }
        circus.closeBooks();
        return circus;
    }

    /** A journal filled up to a number of entries; each of them books 1 coin from takings to damages. */
    static CircusLedger withEntries(CircusLedger circus, int entries) {
        while (circus.entryCount() < entries) {
            circus.post(3, 2, 1);
        }
        return circus;
    }

    static void type(CircusLedger circus, String script) {
        for (int i = 0; i < script.length(); i++) {
            circus.type(script.charAt(i));
        }
    }

    static int run(CircusLedger circus, String script) {
        type(circus, script);
        return circus.runScript();
    }

    static String output(CircusLedger circus, int length) {
        StringBuilder text = new StringBuilder();
        for (int i = 0; i < length; i++) {
            text.append(circus.outputAt(i));
        }
        return text.toString();
    }

    /** Enough of the state to tell it from those before and behind it. */
    static String briefState(CircusLedger c) {
        return c.night() + "," + c.net() + "," + c.showTotal() + "," + c.fallenTotal() + "," + c.accountCount() + ","
                + c.entryCount() + "," + c.bestColumn() + "," + c.balance(0) + "," + c.balance(1) + "," + c.balance(2)
                + "," + c.balance(3) + "," + c.balance(4) + "," + c.debits(3) + "," + c.isConsistent();
    }

    /** All that undo and the snapshot cover, as far as the face tells it. */
    static String state(CircusLedger c) {
        StringBuilder text = new StringBuilder();
        text.append("night ").append(c.night()).append(" net ").append(c.net());
        text.append(" shows ").append(c.showTotal()).append(" fallen ").append(c.fallenTotal());
        for (int a = 0; a < c.acrobatCount(); a++) {
            text.append(" acrobat ").append(c.weight(a)).append(',').append(c.strength(a)).append(',');
            text.append(c.height(a)).append(',').append(c.wage(a)).append(',').append(c.nightsUntilFit(a));
        }
        for (int a = 0; a < c.accountCount(); a++) {
            text.append(" account ").append(c.balance(a)).append(',').append(c.balanceByJournal(a));
        }
        for (int i = 0; i < c.entryCount(); i++) {
            text.append(" entry ").append(c.debitOf(i)).append(',').append(c.creditOf(i)).append(',');
            text.append(c.amountOf(i));
        }
        return text.toString();
    }
}
