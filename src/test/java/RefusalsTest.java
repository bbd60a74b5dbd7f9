import java.util.NoSuchElementException;

/** Each sentence "Throws ... if ..." of the document: what is thrown, and that nothing has changed by it. */
public final class RefusalsTest {
    private static final Class<IndexOutOfBoundsException> INDEX = IndexOutOfBoundsException.class;
    private static final Class<IllegalArgumentException> ARGUMENT = IllegalArgumentException.class;
    private static final Class<IllegalStateException> STATE = IllegalStateException.class;
    private static final Class<UnsupportedOperationException> UNSUPPORTED = UnsupportedOperationException.class;
    private static final Class<NoSuchElementException> NOT_THERE = NoSuchElementException.class;
    private static final Class<ArithmeticException> ARITHMETIC = ArithmeticException.class;

    private static final int LEAST = Integer.MIN_VALUE;
    private static final int GREATEST = Integer.MAX_VALUE;

    public static void main(String[] args) {
        changes();
        acrobats();
        columns();
        accounts();
        outputAndScripts();
        undoAndRestore();
        Check.finish();
    }

    private static void changes() {
        addAcrobatOutsideTheRanges();
        addAcrobatWhenThereAreSix();
        postOnNoSuchAccount();
        postOnTheSameAccount();
        postAnAmountOutsideTheRange();
        postIntoAFullJournal();
        postMoreThanCashOrReserveHas();
        postWithSeveralFaults();
        payOutToNoSuchAcrobat();
        payOutAnAmountOutsideTheRange();
        payOutWithAFullJournal();
        payOutMoreThanThereIsCash();
        payOutWithSeveralFaults();
        showOfNoSuchSet();
        showOfTheInjured();
        showWithAFullJournal();
        showWithSeveralFaults();
        setNetOutsideTheRange();
        passNightsOutsideTheRange();
        cancelOnNoSuchAccount();
        cancelOfBalancesThatAreNotOpposed();
        cancelWithAFullJournal();
        cancelWithSeveralFaults();
    }

    // Promise 2

    private static void addAcrobatOutsideTheRanges() {
        for (int weight : new int[] {29, 121, 0, -30, LEAST, GREATEST}) {
            Twin.refuses("2 weight " + weight, ARGUMENT, Make::lively, c -> c.addAcrobat(weight, 200, 150, 25));
        }
        for (int strength : new int[] {-1, 401, -400, LEAST, GREATEST}) {
            Twin.refuses("2 strength " + strength, ARGUMENT, Make::lively, c -> c.addAcrobat(60, strength, 150, 25));
        }
        for (int height : new int[] {99, 201, 0, -100, LEAST, GREATEST}) {
            Twin.refuses("2 height " + height, ARGUMENT, Make::lively, c -> c.addAcrobat(60, 200, height, 25));
        }
        for (int wage : new int[] {0, 51, -1, LEAST, GREATEST}) {
            Twin.refuses("2 wage " + wage, ARGUMENT, Make::lively, c -> c.addAcrobat(60, 200, 150, wage));
        }
        Twin.refuses("2 nothing fits", ARGUMENT, CircusLedger::new, c -> c.addAcrobat(0, -1, 0, 0));
    }

    private static void addAcrobatWhenThereAreSix() {
        Twin.refuses("2 seventh", STATE, Make::livelySix, c -> c.addAcrobat(60, 200, 150, 25));
        Twin.refuses("2 seventh, outside a range as well", ARGUMENT, Make::livelySix,
                c -> c.addAcrobat(60, 200, 150, 51));
    }

    // Promise 3

    private static void postOnNoSuchAccount() {
        for (int account : new int[] {-1, 9, 10, 11, LEAST, GREATEST}) {
            Twin.refuses("3 debit " + account, INDEX, Make::lively, c -> c.post(account, 2, 5));
            Twin.refuses("3 credit " + account, INDEX, Make::lively, c -> c.post(2, account, 5));
        }
        Twin.refuses("3 debit without acrobats", INDEX, CircusLedger::new, c -> c.post(5, 2, 5));
        Twin.refuses("3 credit without acrobats", INDEX, CircusLedger::new, c -> c.post(2, 5, 5));
        Twin.refuses("3 debit behind six acrobats", INDEX, Make::livelySix, c -> c.post(11, 2, 5));
        Twin.refuses("3 credit behind six acrobats", INDEX, Make::livelySix, c -> c.post(2, 11, 5));
    }

    private static void postOnTheSameAccount() {
        for (int account = 0; account < 9; account++) {
            int both = account;
            Twin.refuses("3 both " + account, ARGUMENT, Make::lively, c -> c.post(both, both, 1));
        }
    }

    private static void postAnAmountOutsideTheRange() {
        for (int amount : new int[] {0, 10000, -1, -9999, LEAST, GREATEST}) {
            Twin.refuses("3 amount " + amount, ARGUMENT, Make::lively, c -> c.post(3, 2, amount));
            Twin.refuses("3 amount from cash " + amount, ARGUMENT, Make::lively, c -> c.post(3, 0, amount));
        }
    }

    private static void postIntoAFullJournal() {
        Twin.refuses("3 full", STATE, () -> Make.livelyWithEntries(60), c -> c.post(0, 2, 1));
    }

    private static void postMoreThanCashOrReserveHas() {
        Twin.refuses("3 cash below 0 by 1", UNSUPPORTED, Make::lively, c -> c.post(4, 0, 27));
        Twin.refuses("3 cash far below 0", UNSUPPORTED, Make::lively, c -> c.post(1, 0, 9999));
        Twin.refuses("3 reserve below 0 by 1", UNSUPPORTED, Make::lively, c -> c.post(4, 1, 6));
        Twin.refuses("3 reserve far below 0", UNSUPPORTED, Make::lively, c -> c.post(0, 1, 9999));
        Twin.refuses("3 no cash", UNSUPPORTED, CircusLedger::new, c -> c.post(1, 0, 1));
        Twin.refuses("3 no reserve", UNSUPPORTED, CircusLedger::new, c -> c.post(0, 1, 1));
    }

    private static void postWithSeveralFaults() {
        Twin.Recipe full = () -> Make.livelyWithEntries(60);
        Twin.refuses("3 no account, and both the same", INDEX, Make::lively, c -> c.post(9, 9, 5));
        Twin.refuses("3 no account, amount 0", INDEX, Make::lively, c -> c.post(9, 2, 0));
        Twin.refuses("3 no account, full", INDEX, full, c -> c.post(2, 9, 5));
        Twin.refuses("3 no account, cash below 0", INDEX, Make::lively, c -> c.post(9, 0, 27));
        Twin.refuses("3 same account, full", ARGUMENT, full, c -> c.post(2, 2, 5));
        Twin.refuses("3 amount 10000, full", ARGUMENT, full, c -> c.post(3, 2, 10000));
        Twin.refuses("3 same account, cash below 0", ARGUMENT, Make::lively, c -> c.post(0, 0, 27));
        Twin.refuses("3 amount 10000, cash below 0", ARGUMENT, Make::lively, c -> c.post(2, 0, 10000));
        Twin.refuses("3 full, cash below 0", STATE, full, c -> c.post(2, 0, 9999));
        Twin.refuses("3 full, reserve below 0", STATE, full, c -> c.post(2, 1, 9999));
        Twin.refuses("3 all faults", INDEX, full, c -> c.post(-1, 0, 10000));
    }

    // Promise 4

    private static void payOutToNoSuchAcrobat() {
        for (int acrobat : new int[] {-1, 4, 5, 6, -5, LEAST, GREATEST, GREATEST - 4}) {
            Twin.refuses("4 acrobat " + acrobat, INDEX, Make::lively, c -> c.payOut(acrobat, 5));
        }
        Twin.refuses("4 nobody", INDEX, CircusLedger::new, c -> c.payOut(0, 5));
        Twin.refuses("4 behind six", INDEX, Make::livelySix, c -> c.payOut(6, 5));
    }

    private static void payOutAnAmountOutsideTheRange() {
        for (int amount : new int[] {0, 10000, -1, -9999, LEAST, GREATEST}) {
            Twin.refuses("4 amount " + amount, ARGUMENT, Make::lively, c -> c.payOut(2, amount));
        }
    }

    private static void payOutWithAFullJournal() {
        Twin.refuses("4 full", STATE, () -> Make.livelyWithEntries(60), c -> c.payOut(2, 1));
    }

    private static void payOutMoreThanThereIsCash() {
        Twin.refuses("4 cash below 0 by 1", UNSUPPORTED, Make::lively, c -> c.payOut(2, 27));
        Twin.refuses("4 cash far below 0", UNSUPPORTED, Make::lively, c -> c.payOut(2, 9999));
        Twin.refuses("4 no cash", UNSUPPORTED, () -> Make.helpless(1), c -> c.payOut(0, 1));
    }

    private static void payOutWithSeveralFaults() {
        Twin.Recipe full = () -> Make.livelyWithEntries(60);
        Twin.refuses("4 no acrobat, amount 0", INDEX, Make::lively, c -> c.payOut(4, 0));
        Twin.refuses("4 no acrobat, full", INDEX, full, c -> c.payOut(4, 5));
        Twin.refuses("4 no acrobat, cash below 0", INDEX, Make::lively, c -> c.payOut(4, 27));
        Twin.refuses("4 amount 0, full", ARGUMENT, full, c -> c.payOut(2, 0));
        Twin.refuses("4 amount 10000, cash below 0", ARGUMENT, Make::lively, c -> c.payOut(2, 10000));
        Twin.refuses("4 full, cash below 0", STATE, full, c -> c.payOut(2, 27));
        Twin.refuses("4 all faults", INDEX, full, c -> c.payOut(-1, 10000));
    }

    // Promise 5

    private static void showOfNoSuchSet() {
        for (int set : new int[] {0, 16, 18, 32, 64, -1, -16, LEAST, LEAST + 2, GREATEST}) {
            Twin.refuses("5 set " + set, ARGUMENT, Make::lively, c -> c.show(set));
        }
        Twin.refuses("5 nobody there", ARGUMENT, CircusLedger::new, c -> c.show(1));
        Twin.refuses("5 behind six", ARGUMENT, Make::livelySix, c -> c.show(64));
    }

    private static void showOfTheInjured() {
        Twin.refuses("5 injured", UNSUPPORTED, Make::lively, c -> c.show(1));
        Twin.refuses("5 one of all is injured", UNSUPPORTED, Make::lively, c -> c.show(15));
        Twin.refuses("5 injured on the last night", UNSUPPORTED, Make::lively, c -> c.show(9));
        Twin.refuses("5 the last of six is injured", UNSUPPORTED, () -> {
            CircusLedger circus = Make.helpless(6);
            circus.show(33);
            return circus;
        }, c -> c.show(32));
    }

    /** A show of n acrobats makes n + 1 entries if the column stands. */
    private static void showWithAFullJournal() {
        for (int acrobats = 1; acrobats <= 6; acrobats++) {
            int set = (1 << acrobats) - 1;
            int oneTooMany = 60 - acrobats;
            Twin.refuses("5 no room for a show of " + acrobats, STATE,
                    () -> Make.withEntries(Make.strongSix(), oneTooMany), c -> c.show(set));
            Twin.refuses("5 full, a show of " + acrobats, STATE,
                    () -> Make.withEntries(Make.strongSix(), 60), c -> c.show(set));
            CircusLedger fits = Make.withEntries(Make.strongSix(), oneTooMany - 1);
            fits.show(set);
            Check.same("5 just enough room for a show of " + acrobats, 60, fits.entryCount());
        }
        Twin.refuses("5 no room for a fall paid from the reserve", STATE,
                () -> Make.withEntries(Make.funded(Make.weakFour(), 0, 20), 60), c -> c.show(15));
        Twin.refuses("5 no room for a fall paid in cash", STATE,
                () -> Make.withEntries(Make.funded(Make.weakFour(), 20, 0), 60), c -> c.show(15));
        Twin.refuses("5 room for one part of the damages only", STATE,
                () -> Make.withEntries(Make.funded(Make.weakFour(), 1, 19), 59), c -> c.show(15));
    }

    private static void showWithSeveralFaults() {
        Twin.Recipe full = () -> Make.livelyWithEntries(60);
        Twin.refuses("5 others, and an injured one", ARGUMENT, Make::lively, c -> c.show(17));
        Twin.refuses("5 empty, full", ARGUMENT, full, c -> c.show(0));
        Twin.refuses("5 others, full", ARGUMENT, full, c -> c.show(16));
        Twin.refuses("5 injured, full", UNSUPPORTED, full, c -> c.show(9));
        Twin.refuses("5 all faults", ARGUMENT, full, c -> c.show(31));
    }

    // Promises 6 and 7

    private static void setNetOutsideTheRange() {
        for (int width : new int[] {-1, 6, -5, LEAST, GREATEST}) {
            Twin.refuses("6 width " + width, ARGUMENT, Make::lively, c -> c.setNet(width));
        }
    }

    private static void passNightsOutsideTheRange() {
        for (int nights : new int[] {0, 100, -1, -99, LEAST, GREATEST}) {
            Twin.refuses("7 nights " + nights, ARGUMENT, Make::lively, c -> c.passNights(nights));
        }
    }

    // Promise 9

    private static void cancelOnNoSuchAccount() {
        for (int account : new int[] {-1, 9, 10, 11, LEAST, GREATEST}) {
            Twin.refuses("9 first " + account, INDEX, Make::lively, c -> c.cancel(account, 2));
            Twin.refuses("9 second " + account, INDEX, Make::lively, c -> c.cancel(0, account));
        }
        Twin.refuses("9 behind six acrobats", INDEX, Make::livelySix, c -> c.cancel(11, 2));
        Twin.refuses("9 without acrobats", INDEX, CircusLedger::new, c -> c.cancel(2, 5));
    }

    private static void cancelOfBalancesThatAreNotOpposed() {
        Twin.refuses("9 both positive", STATE, Make::lively, c -> c.cancel(0, 3));
        Twin.refuses("9 both negative", STATE, Make::lively, c -> c.cancel(2, 6));
        Twin.refuses("9 positive and 0", STATE, Make::lively, c -> c.cancel(0, 4));
        Twin.refuses("9 0 and positive", STATE, Make::lively, c -> c.cancel(4, 0));
        Twin.refuses("9 negative and 0", STATE, Make::lively, c -> c.cancel(2, 4));
        Twin.refuses("9 0 and negative", STATE, Make::lively, c -> c.cancel(4, 2));
        Twin.refuses("9 both 0", STATE, Make::lively, c -> c.cancel(4, 5));
        Twin.refuses("9 the same positive one", STATE, Make::lively, c -> c.cancel(3, 3));
        Twin.refuses("9 the same negative one", STATE, Make::lively, c -> c.cancel(2, 2));
        Twin.refuses("9 the same one with 0", STATE, Make::lively, c -> c.cancel(4, 4));
    }

    private static void cancelWithAFullJournal() {
        Twin.refuses("9 full", STATE, () -> Make.livelyWithEntries(60), c -> c.cancel(0, 2));
    }

    private static void cancelWithSeveralFaults() {
        Twin.Recipe full = () -> Make.livelyWithEntries(60);
        Twin.refuses("9 no account, full", INDEX, full, c -> c.cancel(9, 2));
        Twin.refuses("9 no account, and not opposed", INDEX, Make::lively, c -> c.cancel(2, 9));
        Twin.refuses("9 not opposed, full", STATE, full, c -> c.cancel(0, 3));
    }

    // Promises 11 to 16

    private static void acrobats() {
        for (int count = 0; count <= 6; count++) {
            int acrobats = count;
            for (int acrobat : new int[] {-1, count, count + 1, LEAST, GREATEST}) {
                noSuchAcrobat("of " + count + ", acrobat " + acrobat, () -> Make.helpless(acrobats), acrobat);
            }
        }
        noSuchAcrobat("of a lively circus", Make::lively, 4);
    }

    private static void noSuchAcrobat(String what, Twin.Recipe recipe, int acrobat) {
        Twin.refuses("11 " + what, INDEX, recipe, c -> c.weight(acrobat));
        Twin.refuses("12 " + what, INDEX, recipe, c -> c.strength(acrobat));
        Twin.refuses("13 " + what, INDEX, recipe, c -> c.height(acrobat));
        Twin.refuses("14 " + what, INDEX, recipe, c -> c.wage(acrobat));
        Twin.refuses("15 " + what, INDEX, recipe, c -> c.isInjured(acrobat));
        Twin.refuses("16 " + what, INDEX, recipe, c -> c.nightsUntilFit(acrobat));
    }

    // Promises 17 to 23, 27, 28 and 48

    private static void columns() {
        for (int count = 0; count <= 6; count++) {
            int acrobats = count;
            for (int set : new int[] {0, 1 << count, (1 << count) + 1, -1, LEAST, GREATEST}) {
                noSuchSet("of " + count + ", set " + set, () -> Make.helpless(acrobats), set);
            }
        }
        noSuchSet("of a lively circus", Make::lively, 16);
        placeThatIsNotThere();
        acrobatWhoIsNotInTheSet();
        columnThatStands();
        columnOfOne();
    }

    private static void noSuchSet(String what, Twin.Recipe recipe, int set) {
        Twin.refuses("17 " + what, ARGUMENT, recipe, c -> c.canStand(set));
        Twin.refuses("18 " + what, ARGUMENT, recipe, c -> c.acrobatAt(set, 0));
        Twin.refuses("18 no such place either, " + what, ARGUMENT, recipe, c -> c.acrobatAt(set, -1));
        Twin.refuses("19 " + what, ARGUMENT, recipe, c -> c.loadOn(set, 0));
        Twin.refuses("19 no such acrobat either, " + what, ARGUMENT, recipe, c -> c.loadOn(set, 6));
        Twin.refuses("20 " + what, ARGUMENT, recipe, c -> c.columnHeight(set));
        Twin.refuses("21 " + what, ARGUMENT, recipe, c -> c.overloaded(set));
        Twin.refuses("22 " + what, ARGUMENT, recipe, c -> c.damages(set));
        Twin.refuses("23 " + what, ARGUMENT, recipe, c -> c.isCovered(set));
        Twin.refuses("27 " + what, ARGUMENT, recipe, c -> c.safety(set));
        Twin.refuses("28 " + what, ARGUMENT, recipe, c -> c.safetyBits(set));
        Twin.refuses("48 " + what, ARGUMENT, recipe, c -> c.renderColumn(set));
    }

    private static void placeThatIsNotThere() {
        for (int set = 1; set < 16; set++) {
            int some = set;
            int size = Integer.bitCount(set);
            for (int place : new int[] {-1, size, size + 1, LEAST, GREATEST}) {
                Twin.refuses("18 set " + set + ", place " + place, NOT_THERE, Make::lively,
                        c -> c.acrobatAt(some, place));
            }
        }
        Twin.refuses("18 a seventh place", NOT_THERE, Make::livelySix, c -> c.acrobatAt(63, 6));
    }

    private static void acrobatWhoIsNotInTheSet() {
        for (int acrobat : new int[] {-1, 1, 2, 4, 5, 6, 32, 33, -32, -31, LEAST, GREATEST}) {
            Twin.refuses("19 acrobat " + acrobat, NOT_THERE, Make::lively, c -> c.loadOn(9, acrobat));
        }
        Twin.refuses("19 a seventh acrobat", NOT_THERE, Make::livelySix, c -> c.loadOn(63, 6));
    }

    private static void columnThatStands() {
        for (int set : new int[] {1, 2, 4, 8, 9, 10, 12}) {
            Twin.refuses("21 set " + set, NOT_THERE, Make::lively, c -> c.overloaded(set));
        }
        Twin.refuses("21 six", NOT_THERE, Make::strongSix, c -> c.overloaded(63));
    }

    private static void columnOfOne() {
        for (int acrobat = 0; acrobat < 6; acrobat++) {
            int alone = 1 << acrobat;
            Twin.refuses("27 set " + alone, ARITHMETIC, Make::livelySix, c -> c.safety(alone));
            Twin.refuses("28 set " + alone, ARITHMETIC, Make::livelySix, c -> c.safetyBits(alone));
        }
    }

    // Promises 30 to 46

    private static void accounts() {
        for (int count = 0; count <= 6; count++) {
            int acrobats = count;
            for (int account : new int[] {-1, 5 + count, 6 + count, LEAST, GREATEST}) {
                noSuchAccount("with " + count + " acrobats, account " + account, () -> Make.helpless(acrobats),
                        account);
            }
        }
        noSuchAccount("of a lively circus", Make::lively, 9);
        for (int entry : new int[] {-1, 3, 4, 59, 60, LEAST, GREATEST}) {
            noSuchEntry("entry " + entry, Make::lively, entry);
        }
        noSuchEntry("empty journal", CircusLedger::new, 0);
        noSuchEntry("closed books", RefusalsTest::livelyAndClosed, 0);
        noSuchEntry("full journal", () -> Make.livelyWithEntries(60), 60);
        for (int rank : new int[] {-1, 9, 10, LEAST, GREATEST}) {
            Twin.refuses("38 rank " + rank, NOT_THERE, Make::lively, c -> c.accountByBalance(rank));
        }
        Twin.refuses("38 sixth of five", NOT_THERE, CircusLedger::new, c -> c.accountByBalance(5));
        Twin.refuses("38 twelfth of eleven", NOT_THERE, Make::livelySix, c -> c.accountByBalance(11));
        noPositiveBalance();
    }

    private static void noSuchAccount(String what, Twin.Recipe recipe, int account) {
        Twin.refuses("30 " + what, INDEX, recipe, c -> c.balance(account));
        Twin.refuses("31 " + what, INDEX, recipe, c -> c.balanceByJournal(account));
        Twin.refuses("32 " + what, INDEX, recipe, c -> c.debits(account));
        Twin.refuses("33 " + what, INDEX, recipe, c -> c.credits(account));
    }

    private static void noSuchEntry(String what, Twin.Recipe recipe, int entry) {
        Twin.refuses("35 " + what, INDEX, recipe, c -> c.debitOf(entry));
        Twin.refuses("36 " + what, INDEX, recipe, c -> c.creditOf(entry));
        Twin.refuses("37 " + what, INDEX, recipe, c -> c.amountOf(entry));
        Twin.refuses("49 " + what, INDEX, recipe, c -> c.renderEntry(entry));
    }

    private static CircusLedger livelyAndClosed() {
        CircusLedger circus = Make.lively();
        circus.closeBooks();
        return circus;
    }

    private static void noPositiveBalance() {
        Twin.refuses("45 new", ARITHMETIC, CircusLedger::new, c -> c.meanPositive());
        Twin.refuses("46 new", ARITHMETIC, CircusLedger::new, c -> c.meanPositiveBits());
        Twin.refuses("45 all settled", ARITHMETIC, RefusalsTest::livelyAndSettled, c -> c.meanPositive());
        Twin.refuses("46 all settled", ARITHMETIC, RefusalsTest::livelyAndSettled, c -> c.meanPositiveBits());
    }

    private static CircusLedger livelyAndSettled() {
        CircusLedger circus = Make.lively();
        for (int account : new int[] {0, 1, 3, 8}) {
            circus.cancel(account, 2);
        }
        circus.cancel(7, 6);
        for (int account = 0; account < 9; account++) {
            Check.same("9 settled account " + account, 0, circus.balance(account));
        }
        return circus;
    }

    // Promises 50 to 54

    private static void outputAndScripts() {
        for (int index : new int[] {-1, 5, 6, LEAST, GREATEST}) {
            Twin.refuses("50 index " + index, INDEX, Make::lively, c -> c.outputAt(index));
        }
        Twin.refuses("50 empty text", INDEX, CircusLedger::new, c -> c.outputAt(0));
        for (int code : new int[] {0, 9, 10, 31, 127, 128, 160, 255, 256, 288, 32767, 32768, 65535}) {
            Twin.refuses("51 code " + code, ARGUMENT, Make::lively, c -> c.type((char) code));
        }
        Twin.Recipe full = () -> Make.lively("post 0000>0002 0050;post 0000>0002 0050;close;post 0>02 0050");
        Twin.refuses("51 full", STATE, full, c -> c.type('1'));
        Twin.refuses("51 full, and below 32", ARGUMENT, full, c -> c.type((char) 31));
        Twin.refuses("51 full, and above 126", ARGUMENT, full, c -> c.type((char) 127));
        Twin.refuses("53 no script at all", NOT_THERE, CircusLedger::new, c -> c.errorPosition());
        Twin.refuses("54 no script at all", NOT_THERE, CircusLedger::new, c -> c.failedCommand());
        Twin.refuses("53 only a script with a failed command", NOT_THERE, () -> afterScript("net 9"),
                c -> c.errorPosition());
        Twin.refuses("54 only a script without the form", NOT_THERE, () -> afterScript("net x"),
                c -> c.failedCommand());
        Twin.refuses("53 only a script that took effect", NOT_THERE, () -> afterScript("net 4"),
                c -> c.errorPosition());
        Twin.refuses("54 only a script that took effect", NOT_THERE, () -> afterScript("net 4"),
                c -> c.failedCommand());
    }

    private static CircusLedger afterScript(String script) {
        CircusLedger circus = Make.evenTrio();
        Make.type(circus, script);
        Check.outcome(circus::runScript);
        return circus;
    }

    // Promises 55 and 57

    private static void undoAndRestore() {
        Twin.refuses("55 new", NOT_THERE, CircusLedger::new, c -> c.undo());
        Twin.refuses("55 all eight undone", NOT_THERE, RefusalsTest::livelyAndUndone, c -> c.undo());
        Twin.refuses("55 restored", NOT_THERE, RefusalsTest::livelyAndRestored, c -> c.undo());
        Twin.refuses("57 new", STATE, CircusLedger::new, c -> c.restore());
        Twin.refuses("57 never saved", STATE, () -> afterScript("net 4"), c -> c.restore());
    }

    private static CircusLedger livelyAndUndone() {
        CircusLedger circus = Make.lively();
        for (int left = 7; left >= 0; left--) {
            Check.same("55 left", left, circus.undo());
        }
        return circus;
    }

    private static CircusLedger livelyAndRestored() {
        CircusLedger circus = Make.lively();
        circus.restore();
        return circus;
    }
}
