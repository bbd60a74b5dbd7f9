/** "An object is used for at most 512 calls": what the last ones answer, and how great the numbers become. */
public final class LastCallsTest {
    private static final int CALLS = 512;

    public static void main(String[] args) {
        theMostCoins();
        theMostNights();
        theMostShows();
        theDearestQuestions();
        theMostText();
        theMostScripts();
        theMostUndone();
        Check.finish();
    }

    private static void theMostCoins() {
        CircusLedger c = new CircusLedger();
        int posted = 0;
        for (int calls = 1; calls <= CALLS - 8; calls++) {
            if (c.entryCount() == 60) {
                c.closeBooks();
            } else {
                c.post(0, 2, 9999);
                posted++;
            }
            calls++;
        }
        int coins = 9999 * posted;
        Check.same("30 cash", coins, c.balance(0));
        Check.same("31 takings", -coins, c.balanceByJournal(2));
        Check.same("45 mean", (double) coins, c.meanPositive());
        Check.same("46 mean", Double.doubleToLongBits(coins), c.meanPositiveBits());
        Check.same("39 transfers", 1, c.fewestTransfers());
        Check.same("47 consistent", true, c.isConsistent());
        c.closeBooks();
        Check.same("9 all at once", coins, c.cancel(0, 2));
    }

    private static void theMostNights() {
        CircusLedger c = new CircusLedger();
        for (int calls = 1; calls < CALLS; calls++) {
            c.passNights(99);
        }
        Check.same("41 nights", 99 * (CALLS - 1), c.night());
    }

    private static void theMostShows() {
        CircusLedger c = Make.helpless(6);
        c.setNet(5);
        for (int calls = 8; calls <= CALLS - 3; calls++) {
            c.show(63);
        }
        Check.same("43 shows", CALLS - 10, c.showTotal());
        Check.same("44 fallen", 5 * (CALLS - 10), c.fallenTotal());
        Check.same("41 nights", CALLS - 10, c.night());
    }

    private static CircusLedger unsettled() {
        CircusLedger c = new CircusLedger();
        for (int i = 0; i < 6; i++) {
            c.addAcrobat(100 + i, 400 - 60 * i, 150 + i, 10);
        }
        for (int account = 0; account < 10; account++) {
            c.post(account, 10, 1 + (1 << account));
        }
        return c;
    }

    private static void theDearestQuestions() {
        CircusLedger c = unsettled();
        int transfers = c.fewestTransfers();
        for (int calls = 18; calls <= CALLS; calls++) {
            Check.same("40 transfers", transfers, c.fewestTransfersBySearch());
        }
        CircusLedger high = unsettled();
        int height = high.bestHeight();
        for (int calls = 18; calls <= CALLS; calls++) {
            Check.same("25 height", height, high.bestHeightBySearch());
        }
        CircusLedger checked = unsettled();
        for (int calls = 17; calls <= CALLS; calls++) {
            Check.same("47 consistent", true, checked.isConsistent());
        }
    }

    private static void theMostText() {
        CircusLedger c = unsettled();
        int length = c.renderColumn(63);
        for (int calls = 18; calls < CALLS; calls++) {
            Check.same("48 length", length, c.renderColumn(63));
        }
        Check.same("50 last sign", ')', c.outputAt(length - 1));
    }

    private static void theMostScripts() {
        CircusLedger c = new CircusLedger();
        for (int calls = 1; calls < CALLS; calls++) {
            Check.refused("52 empty script", IllegalArgumentException.class, c::runScript);
        }
        Check.same("53 empty script", 0, c.errorPosition());
        CircusLedger typed = new CircusLedger();
        for (int i = 0; i < 8; i++) {
            Check.same("52 a full buffer", 4,
                    Make.run(typed, "post 0000>0002 9999;post 0000>0002 9999;close;post 0>02 9999"));
        }
        Check.same("30 after 488 calls", 8 * 3 * 9999, typed.balance(0));
    }

    private static void theMostUndone() {
        CircusLedger c = new CircusLedger();
        for (int calls = 2; calls <= CALLS; calls += 2) {
            c.setNet(3);
            Check.same("55 undone", 0, c.undo());
        }
        CircusLedger late = new CircusLedger();
        for (int calls = 1; calls <= CALLS - 9; calls++) {
            late.passNights(1);
        }
        for (int left = 7; left >= 0; left--) {
            Check.same("55 left", left, late.undo());
        }
        Check.same("41 eight undone", CALLS - 9 - 8, late.night());
    }
}
