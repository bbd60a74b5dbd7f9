import java.util.NoSuchElementException;

/** Promises 29 to 47: accounts, totals and checks. */
public final class AccountsTest {
    public static void main(String[] args) {
        accountCount();
        balances();
        sums();
        entries();
        wrongIndices();
        ranking();
        fewestTransfers();
        fewestTransfersOfAllAccounts();
        totals();
        meanPositive();
        isConsistent();
        Check.finish();
    }

    private static void accountCount() {
        CircusLedger c = new CircusLedger();
        Check.same("29 none", 5, c.accountCount());
        c.addAcrobat(60, 90, 150, 10);
        Check.same("29 one", 6, c.accountCount());
        c.undo();
        Check.same("29 undone", 5, c.accountCount());
    }

    private static void balances() {
        CircusLedger c = Make.evenTrio();
        c.post(0, 2, 100);
        c.post(5, 0, 30);
        balance("cash", c, 0, 70);
        balance("takings", c, 2, -100);
        balance("acrobat", c, 5, 30);
        balance("untouched", c, 1, 0);
        c.closeBooks();
        balance("closed", c, 0, 70);
        c.post(0, 2, 5);
        balance("closed and more", c, 0, 75);
        balance("closed and more taken", c, 2, -105);
        c.addAcrobat(60, 90, 150, 10);
        balance("acrobat who came later", c, 8, 0);
        c.payOut(3, 9);
        balance("acrobat who came later, paid", c, 8, 9);
    }

    private static void balance(String what, CircusLedger c, int account, int due) {
        Check.same("30 " + what, due, c.balance(account));
        Check.same("31 " + what, due, c.balanceByJournal(account));
    }

    private static void sums() {
        CircusLedger c = Make.evenTrio();
        c.post(0, 2, 100);
        c.post(0, 3, 20);
        c.post(1, 0, 7);
        c.post(1, 0, 6);
        Check.same("32 cash", 120, c.debits(0));
        Check.same("33 cash", 13, c.credits(0));
        Check.same("32 reserve", 13, c.debits(1));
        Check.same("33 reserve", 0, c.credits(1));
        Check.same("32 takings", 0, c.debits(2));
        Check.same("33 takings", 100, c.credits(2));
        c.closeBooks();
        Check.same("32 closed", 0, c.debits(0));
        Check.same("33 closed", 0, c.credits(0));
        c.post(0, 2, 1);
        Check.same("32 after closing", 1, c.debits(0));
        Check.same("33 after closing", 1, c.credits(2));
    }

    private static void entries() {
        CircusLedger c = Make.evenTrio();
        c.post(0, 2, 100);
        c.post(7, 0, 33);
        Check.same("34 two", 2, c.entryCount());
        Check.same("35 first", 0, c.debitOf(0));
        Check.same("36 first", 2, c.creditOf(0));
        Check.same("37 first", 100, c.amountOf(0));
        Check.same("35 second", 7, c.debitOf(1));
        Check.same("36 second", 0, c.creditOf(1));
        Check.same("37 second", 33, c.amountOf(1));
        c.closeBooks();
        Check.same("34 closed", 0, c.entryCount());
        Check.refused("35 closed", IndexOutOfBoundsException.class, () -> c.debitOf(0));
        c.post(4, 3, 8);
        Check.same("35 after closing", 4, c.debitOf(0));
        Make.withEntries(c, 60);
        Check.same("34 full", 60, c.entryCount());
        Check.same("37 last", 1, c.amountOf(59));
    }

    private static void wrongIndices() {
        CircusLedger c = Make.evenTrio();
        c.post(0, 2, 100);
        c.post(0, 2, 100);
        Class<IndexOutOfBoundsException> index = IndexOutOfBoundsException.class;
        for (int account : new int[] {-1, 8, 9, 11, Integer.MIN_VALUE, Integer.MAX_VALUE}) {
            Check.refused("30 account " + account, index, () -> c.balance(account));
            Check.refused("31 account " + account, index, () -> c.balanceByJournal(account));
            Check.refused("32 account " + account, index, () -> c.debits(account));
            Check.refused("33 account " + account, index, () -> c.credits(account));
        }
        for (int entry : new int[] {-1, 2, 3, 60, 61, Integer.MIN_VALUE, Integer.MAX_VALUE}) {
            Check.refused("35 entry " + entry, index, () -> c.debitOf(entry));
            Check.refused("36 entry " + entry, index, () -> c.creditOf(entry));
            Check.refused("37 entry " + entry, index, () -> c.amountOf(entry));
            Check.refused("49 entry " + entry, index, () -> c.renderEntry(entry));
        }
        Make.withEntries(c, 60);
        Check.refused("35 behind a full journal", index, () -> c.debitOf(60));
    }

    private static void ranking() {
        CircusLedger c = Make.evenTrio();
        c.post(5, 6, 30);
        c.post(4, 7, 30);
        c.post(2, 3, 9);
        int[] due = {4, 5, 2, 0, 1, 3, 6, 7};
        for (int rank = 0; rank < due.length; rank++) {
            Check.same("38 rank " + rank, due[rank], c.accountByBalance(rank));
        }
        Class<NoSuchElementException> none = NoSuchElementException.class;
        Check.refused("38 behind the last", none, () -> c.accountByBalance(8));
        Check.refused("38 negative", none, () -> c.accountByBalance(-1));
        Check.refused("38 least", none, () -> c.accountByBalance(Integer.MIN_VALUE));
        CircusLedger fresh = new CircusLedger();
        Check.same("38 all are equal", 4, fresh.accountByBalance(4));
        Check.refused("38 no acrobats", none, () -> fresh.accountByBalance(5));
    }

    private static void fewestTransfers() {
        CircusLedger c = Make.evenTrio();
        fewest("nothing to settle", c, 0);
        c.post(5, 6, 30);
        fewest("a pair", c, 1);
        c.post(5, 7, 20);
        fewest("a group of three", c, 2);
        c.post(2, 3, 9);
        fewest("a group of three and a pair", c, 3);
        c.post(4, 2, 9);
        fewest("the pair moved on", c, 3);
        c.post(0, 4, 5);
        fewest("two groups of three", c, 4);
        CircusLedger one = Make.evenTrio();
        one.post(0, 5, 10);
        one.post(0, 6, 11);
        one.post(0, 7, 13);
        fewest("one for all", one, 3);
        one.post(1, 3, 11);
        fewest("not with the first that fits", one, 4);
        CircusLedger coins = Make.evenTrio();
        coins.post(3, 2, 1);
        coins.post(4, 2, 1);
        fewest("single coins", coins, 2);
        coins.cancel(3, 2);
        Check.same("40 before the other way", 1, coins.fewestTransfersBySearch());
        coins.undo();
        Check.same("40 before the other way again", 2, coins.fewestTransfersBySearch());
    }

    private static void fewestTransfersOfAllAccounts() {
        CircusLedger c = Make.strongSix();
        for (int acrobat = 0; acrobat < 5; acrobat++) {
            c.post(4, 6 + acrobat, 1 << acrobat);
            c.post(acrobat == 0 ? 5 : acrobat - 1, 4, 1 << acrobat);
        }
        Check.same("39 settled in between", 0, c.balance(4));
        fewest("five pairs", c, 5);
        c.post(4, 3, 100);
        fewest("five pairs, one broken", c, 6);
        c.closeBooks();
        CircusLedger hard = Make.strongSix();
        for (int account = 0; account < 10; account++) {
            hard.post(account, 10, 1 << account);
        }
        fewest("one group of eleven", hard, 10);
        CircusLedger equal = Make.strongSix();
        equal.post(0, 5, 4);
        equal.post(0, 6, 4);
        equal.post(0, 7, 4);
        equal.post(1, 8, 4);
        equal.post(1, 9, 4);
        equal.post(1, 10, 4);
        fewest("two groups of four", equal, 6);
    }

    private static void fewest(String what, CircusLedger c, int due) {
        Check.same("39 " + what, due, c.fewestTransfers());
        Check.same("40 " + what, due, c.fewestTransfersBySearch());
        Check.same("47 " + what, true, c.isConsistent());
    }

    private static void totals() {
        CircusLedger c = Make.weakFour();
        c.passNights(7);
        Check.same("41 night", 7, c.night());
        c.setNet(4);
        Check.same("42 net", 4, c.net());
        c.show(15);
        c.show(8);
        Check.same("41 a night a show", 9, c.night());
        Check.same("43 shows", 2, c.showTotal());
        Check.same("44 fallen", 2, c.fallenTotal());
        c.show(13);
        Check.same("43 three", 3, c.showTotal());
        Check.same("44 one more", 3, c.fallenTotal());
    }

    private static void meanPositive() {
        CircusLedger c = Make.evenTrio();
        Class<ArithmeticException> none = ArithmeticException.class;
        Check.refused("45 none", none, c::meanPositive);
        Check.refused("46 none", none, c::meanPositiveBits);
        c.post(3, 2, 10);
        mean("one", c, 10);
        c.post(4, 2, 5);
        mean("two", c, 7.5);
        c.post(5, 2, 5);
        mean("three", c, 20.0 / 3);
        c.cancel(3, 2);
        c.cancel(4, 2);
        mean("one again", c, 5);
        c.cancel(5, 2);
        Check.refused("45 none again", none, c::meanPositive);
        Check.refused("46 none again", none, c::meanPositiveBits);
        c.post(3, 2, 1);
        mean("the least", c, 1);
        for (int i = 0; i < 12; i++) {
            c.post(4 + i % 4, 2, 9998 - i);
        }
        double sum = 1 + 12 * 9998 - 66;
        mean("great ones", c, sum / 5);
        CircusLedger six = Make.strongSix();
        six.post(0, 2, 6);
        six.post(10, 2, 3);
        mean("the first and the last account", six, 4.5);
    }

    private static void mean(String what, CircusLedger c, double due) {
        Check.same("45 " + what, due, c.meanPositive());
        Check.same("46 " + what, Double.doubleToLongBits(due), c.meanPositiveBits());
    }

    private static void isConsistent() {
        CircusLedger c = new CircusLedger();
        Check.same("47 new", true, c.isConsistent());
        CircusLedger played = Make.funded(Make.weakFour(), 30, 12);
        played.show(15);
        Check.same("47 after a fall", true, played.isConsistent());
        played.closeBooks();
        played.show(10);
        Check.same("47 after closing", true, played.isConsistent());
        played.undo();
        Check.same("47 after undo", true, played.isConsistent());
    }
}
