import java.util.NoSuchElementException;

/** Promises 1 to 9: a new object and the changes. */
public final class ChangesTest {
    public static void main(String[] args) {
        newObject();
        addAcrobat();
        addAcrobatRefuses();
        post();
        postRefuses();
        payOut();
        payOutRefuses();
        showThatStands();
        showThatFalls();
        showPaidFromReserveAndCash();
        showInjures();
        showRefuses();
        showAtTheEndOfTheJournal();
        setNet();
        passNights();
        closeBooks();
        cancel();
        cancelRefuses();
        Check.finish();
    }

    private static void newObject() {
        CircusLedger c = new CircusLedger();
        Check.same("1 acrobats", 0, c.acrobatCount());
        Check.same("1 accounts", 5, c.accountCount());
        Check.same("1 entries", 0, c.entryCount());
        Check.same("1 night", 0, c.night());
        Check.same("1 net", 0, c.net());
        Check.same("1 shows", 0, c.showTotal());
        Check.same("1 fallen", 0, c.fallenTotal());
        for (int account = 0; account < 5; account++) {
            Check.same("1 balance", 0, c.balance(account));
        }
        Check.refused("1 output", IndexOutOfBoundsException.class, () -> c.outputAt(0));
        Check.refused("1 undo", NoSuchElementException.class, c::undo);
        Check.refused("1 snapshot", IllegalStateException.class, c::restore);
        Check.refused("1 error position", NoSuchElementException.class, c::errorPosition);
        Check.refused("1 failed command", NoSuchElementException.class, c::failedCommand);
        Check.same("1 script buffer", 1, c.type('a'));
        Check.same("1 consistent", true, c.isConsistent());
    }

    private static void addAcrobat() {
        CircusLedger c = new CircusLedger();
        Check.same("2 least measures", 0, c.addAcrobat(30, 0, 100, 1));
        Check.same("2 greatest measures", 1, c.addAcrobat(120, 400, 200, 50));
        Check.same("2 third", 2, c.addAcrobat(31, 1, 101, 2));
        Check.same("2 count", 3, c.acrobatCount());
        Check.same("2 accounts", 8, c.accountCount());
        Check.same("2 balance of the new account", 0, c.balance(7));
        Check.same("2 fit", false, c.isInjured(2));
        c.addAcrobat(33, 3, 103, 3);
        c.addAcrobat(34, 4, 104, 4);
        Check.same("2 sixth", 5, c.addAcrobat(35, 5, 105, 5));
        Check.same("2 all accounts", 11, c.accountCount());
    }

    private static void addAcrobatRefuses() {
        CircusLedger c = new CircusLedger();
        Class<IllegalArgumentException> argument = IllegalArgumentException.class;
        Check.refused("2 light", argument, () -> c.addAcrobat(29, 50, 150, 10));
        Check.refused("2 heavy", argument, () -> c.addAcrobat(121, 50, 150, 10));
        Check.refused("2 weaker than 0", argument, () -> c.addAcrobat(60, -1, 150, 10));
        Check.refused("2 too strong", argument, () -> c.addAcrobat(60, 401, 150, 10));
        Check.refused("2 short", argument, () -> c.addAcrobat(60, 50, 99, 10));
        Check.refused("2 tall", argument, () -> c.addAcrobat(60, 50, 201, 10));
        Check.refused("2 unpaid", argument, () -> c.addAcrobat(60, 50, 150, 0));
        Check.refused("2 overpaid", argument, () -> c.addAcrobat(60, 50, 150, 51));
        Check.refused("2 far off", argument, () -> c.addAcrobat(Integer.MIN_VALUE, 50, 150, 10));
        Check.same("2 nothing changed", 0, c.acrobatCount());
        Check.refused("2 nothing to undo", NoSuchElementException.class, c::undo);
        CircusLedger full = Make.strongSix();
        Check.refused("2 seventh", IllegalStateException.class, () -> full.addAcrobat(60, 50, 150, 10));
        Check.refused("2 argument first", argument, () -> full.addAcrobat(29, 50, 150, 10));
        Check.same("2 still six", 6, full.acrobatCount());
        Check.same("2 still eleven", 11, full.accountCount());
    }

    private static void post() {
        CircusLedger c = Make.evenTrio();
        Check.same("3 first entry", 0, c.post(0, 2, 100));
        Check.same("3 second entry", 1, c.post(1, 0, 100));
        Check.same("3 cash may become 0", 0, c.balance(0));
        Check.same("3 reserve", 100, c.balance(1));
        Check.same("3 takings", -100, c.balance(2));
        Check.same("3 third entry", 2, c.post(7, 3, 9999));
        Check.same("3 debit", 7, c.debitOf(2));
        Check.same("3 credit", 3, c.creditOf(2));
        Check.same("3 amount", 9999, c.amountOf(2));
        Check.same("3 last account", 9999, c.balance(7));
        Check.same("3 others may become negative", -9999, c.balance(3));
        Check.same("3 least amount", 3, c.post(4, 1, 1));
        Check.same("3 entries", 4, c.entryCount());
        Check.same("3 no night passes", 0, c.night());
    }

    private static void postRefuses() {
        CircusLedger c = Make.evenTrio();
        c.post(0, 2, 50);
        Class<IndexOutOfBoundsException> index = IndexOutOfBoundsException.class;
        Class<IllegalArgumentException> argument = IllegalArgumentException.class;
        Class<UnsupportedOperationException> unsupported = UnsupportedOperationException.class;
        Check.refused("3 debit too great", index, () -> c.post(8, 2, 5));
        Check.refused("3 credit too great", index, () -> c.post(2, 8, 5));
        Check.refused("3 debit negative", index, () -> c.post(-1, 2, 5));
        Check.refused("3 credit negative", index, () -> c.post(2, -1, 5));
        Check.refused("3 index before argument", index, () -> c.post(8, 8, 0));
        Check.refused("3 same account", argument, () -> c.post(2, 2, 5));
        Check.refused("3 amount 0", argument, () -> c.post(2, 3, 0));
        Check.refused("3 amount negative", argument, () -> c.post(2, 3, -5));
        Check.refused("3 amount 10000", argument, () -> c.post(2, 3, 10000));
        Check.refused("3 cash negative", unsupported, () -> c.post(2, 0, 51));
        Check.refused("3 reserve negative", unsupported, () -> c.post(0, 1, 1));
        Check.refused("3 argument before cash", argument, () -> c.post(2, 0, 10000));
        Check.same("3 nothing changed", 1, c.entryCount());
        Check.same("3 no coins moved", 50, c.balance(0));
        Make.withEntries(c, 59);
        Check.same("3 sixtieth entry", 59, c.post(2, 3, 1));
        Check.refused("3 sixty-first", IllegalStateException.class, () -> c.post(2, 3, 1));
        Check.refused("3 full before cash", IllegalStateException.class, () -> c.post(2, 0, 9999));
        Check.refused("3 argument before full", argument, () -> c.post(2, 2, 1));
        Check.refused("3 index before full", index, () -> c.post(2, 9, 1));
        Check.same("3 sixty entries", 60, c.entryCount());
    }

    private static void payOut() {
        CircusLedger c = Make.funded(Make.evenTrio(), 100, 0);
        Check.same("4 balance", 30, c.payOut(1, 30));
        Check.same("4 balance grows", 35, c.payOut(1, 5));
        Check.same("4 all of the cash", 65, c.payOut(2, 65));
        Check.same("4 cash", 0, c.balance(0));
        Check.same("4 debit", 6, c.debitOf(0));
        Check.same("4 credit", 0, c.creditOf(0));
        Check.same("4 amount", 30, c.amountOf(0));
        CircusLedger rich = Make.funded(Make.evenTrio(), 9999, 0);
        Check.same("4 greatest amount", 9999, rich.payOut(0, 9999));
        rich.undo();
        rich.post(4, 5, 20);
        Check.same("4 negative afterwards", -13, rich.payOut(0, 7));
        CircusLedger six = Make.withEntries(Make.funded(Make.strongSix(), 50, 0), 59);
        Check.same("4 the last acrobat and the last entry", 50, six.payOut(5, 50));
        Check.same("4 the last account", 50, six.balance(10));
    }

    private static void payOutRefuses() {
        CircusLedger c = Make.funded(Make.evenTrio(), 10, 50);
        Class<IndexOutOfBoundsException> index = IndexOutOfBoundsException.class;
        Class<IllegalArgumentException> argument = IllegalArgumentException.class;
        Check.refused("4 acrobat too great", index, () -> c.payOut(3, 5));
        Check.refused("4 acrobat negative", index, () -> c.payOut(-1, 5));
        Check.refused("4 no account for the acrobat", index, () -> c.payOut(-5, 5));
        Check.refused("4 overflow", index, () -> c.payOut(Integer.MAX_VALUE, 5));
        Check.refused("4 index before argument", index, () -> c.payOut(3, 0));
        Check.refused("4 amount 0", argument, () -> c.payOut(0, 0));
        Check.refused("4 amount 10000", argument, () -> c.payOut(0, 10000));
        Check.refused("4 cash negative", UnsupportedOperationException.class, () -> c.payOut(0, 11));
        Make.withEntries(c, 60);
        Check.refused("4 full before cash", IllegalStateException.class, () -> c.payOut(0, 11));
        Check.refused("4 full", IllegalStateException.class, () -> c.payOut(0, 1));
        Check.refused("4 argument before full", argument, () -> c.payOut(0, 0));
        Check.same("4 nothing changed", 10, c.balance(0));
    }

    private static void showThatStands() {
        CircusLedger c = Make.evenTrio();
        Check.same("5 takings round down", 31, c.show(3));
        Check.same("5 entries", 3, c.entryCount());
        Check.same("5 takings entry", "0>2=31", Make.output(c, c.renderEntry(0)));
        Check.same("5 first wage", "4>5=10", Make.output(c, c.renderEntry(1)));
        Check.same("5 second wage", "4>6=20", Make.output(c, c.renderEntry(2)));
        Check.same("5 a night passed", 1, c.night());
        Check.same("5 shows", 1, c.showTotal());
        Check.same("5 nobody fell", 0, c.fallenTotal());
        Check.same("5 next takings", 48, c.show(7));
        Check.same("5 cash", 79, c.balance(0));
        Check.same("5 wages", 65, c.balance(4));
        Check.same("5 account of the acrobat", -5, c.balance(7));
    }

    private static void showThatFalls() {
        CircusLedger c = Make.funded(Make.weakFour(), 0, 100);
        Check.same("5 damages", -20, c.show(15));
        Check.same("5 one entry", 1, c.entryCount());
        Check.same("5 from the reserve", "3>1=20", Make.output(c, c.renderEntry(0)));
        Check.same("5 reserve", 80, c.balance(1));
        Check.same("5 no wages", 0, c.balance(4));
        Check.same("5 shows count", 1, c.showTotal());
        Check.same("5 fallen", 2, c.fallenTotal());
        Check.same("5 a night passed", 1, c.night());
    }

    private static void showPaidFromReserveAndCash() {
        CircusLedger both = Make.funded(Make.weakFour(), 100, 7);
        Check.same("5 both: damages", -20, both.show(15));
        Check.same("5 both: reserve first", "3>1=7", Make.output(both, both.renderEntry(0)));
        Check.same("5 both: then cash", "3>0=13", Make.output(both, both.renderEntry(1)));
        Check.same("5 both: entries", 2, both.entryCount());
        CircusLedger cash = Make.funded(Make.weakFour(), 20, 0);
        Check.same("5 cash: damages", -20, cash.show(15));
        Check.same("5 cash: entry", "3>0=20", Make.output(cash, cash.renderEntry(0)));
        Check.same("5 cash: entries", 1, cash.entryCount());
        CircusLedger little = Make.funded(Make.weakFour(), 5, 6);
        Check.same("5 little: damages", -20, little.show(15));
        Check.same("5 little: booked", 11, little.balance(3));
        Check.same("5 little: cash", 0, little.balance(0));
        Check.same("5 little: reserve", 0, little.balance(1));
        CircusLedger poor = Make.weakFour();
        Check.same("5 poor: damages", -20, poor.show(15));
        Check.same("5 poor: no entry", 0, poor.entryCount());
        Check.same("5 poor: the fall counts", 2, poor.fallenTotal());
        CircusLedger coins = Make.funded(Make.weakFour(), 1, 1);
        Check.same("5 single coins: damages", -20, coins.show(15));
        Check.same("5 single coins: entries", 2, coins.entryCount());
        Check.same("5 single coins: booked", 2, coins.balance(3));
        CircusLedger exact = Make.funded(Make.weakFour(), 9, 20);
        exact.show(15);
        Check.same("5 exact: one entry", 1, exact.entryCount());
        Check.same("5 exact: cash stays", 9, exact.balance(0));
    }

    private static void showInjures() {
        CircusLedger bare = Make.weakFour();
        bare.show(15);
        Check.same("5 first faller", 2, bare.nightsUntilFit(2));
        Check.same("5 second faller", 2, bare.nightsUntilFit(0));
        Check.same("5 the overloaded one", 0, bare.nightsUntilFit(1));
        Check.same("5 the lowest", 0, bare.nightsUntilFit(3));
        CircusLedger narrow = Make.weakFour();
        narrow.setNet(1);
        narrow.show(15);
        Check.same("5 in the net", false, narrow.isInjured(2));
        Check.same("5 beside the net", true, narrow.isInjured(0));
        Check.same("5 both fell", 2, narrow.fallenTotal());
        CircusLedger wide = Make.weakFour();
        wide.setNet(2);
        wide.show(15);
        Check.same("5 all in the net", false, wide.isInjured(0));
        wide.show(15);
        Check.same("5 falls add up", 4, wide.fallenTotal());
    }

    private static void showRefuses() {
        CircusLedger c = Make.weakFour();
        Class<IllegalArgumentException> argument = IllegalArgumentException.class;
        Check.refused("5 empty", argument, () -> c.show(0));
        Check.refused("5 others", argument, () -> c.show(16));
        Check.refused("5 others too", argument, () -> c.show(31));
        Check.refused("5 negative", argument, () -> c.show(-1));
        Check.refused("5 least", argument, () -> c.show(Integer.MIN_VALUE));
        c.show(15);
        Check.refused("5 injured", UnsupportedOperationException.class, () -> c.show(1));
        Check.refused("5 one injured", UnsupportedOperationException.class, () -> c.show(9));
        Check.refused("5 argument before injured", argument, () -> c.show(17));
        Check.same("5 only one show", 1, c.showTotal());
        Check.same("5 only one night", 1, c.night());
        Check.same("5 the fit ones", 24, c.show(10));
        CircusLedger nobody = new CircusLedger();
        Check.refused("5 nobody", argument, () -> nobody.show(1));
    }

    private static void showAtTheEndOfTheJournal() {
        CircusLedger c = Make.withEntries(Make.evenTrio(), 57);
        Check.refused("5 four entries do not fit", IllegalStateException.class, () -> c.show(7));
        Check.same("5 no entry was made", 57, c.entryCount());
        Check.same("5 no show was given", 0, c.showTotal());
        Check.same("5 three entries fit", 31, c.show(3));
        Check.same("5 journal is full", 60, c.entryCount());
        Check.refused("5 full", IllegalStateException.class, () -> c.show(1));
        CircusLedger poor = Make.withEntries(Make.weakFour(), 60);
        Check.same("5 a fall without entries", -20, poor.show(15));
        Check.refused("5 injured before full", UnsupportedOperationException.class, () -> poor.show(1));
        CircusLedger rich = Make.withEntries(Make.funded(Make.weakFour(), 100, 5), 59);
        Check.refused("5 two entries do not fit", IllegalStateException.class, () -> rich.show(15));
        Check.same("5 nobody fell", 0, rich.fallenTotal());
        CircusLedger fits = Make.withEntries(Make.funded(Make.weakFour(), 100, 5), 58);
        Check.same("5 two entries fit", -20, fits.show(15));
        CircusLedger coins = Make.withEntries(Make.funded(Make.weakFour(), 1, 1), 59);
        Check.refused("5 two coins do not fit", IllegalStateException.class, () -> coins.show(15));
        CircusLedger safe = Make.withEntries(Make.funded(Make.weakFour(), 100, 20), 59);
        Check.same("5 one entry fits", -20, safe.show(15));
    }

    private static void setNet() {
        CircusLedger c = new CircusLedger();
        Check.same("6 previous is 0", 0, c.setNet(5));
        Check.same("6 width", 5, c.net());
        Check.same("6 previous is 5", 5, c.setNet(0));
        Check.same("6 previous is 0 again", 0, c.setNet(3));
        Check.refused("6 negative", IllegalArgumentException.class, () -> c.setNet(-1));
        Check.refused("6 wide", IllegalArgumentException.class, () -> c.setNet(6));
        Check.same("6 unchanged", 3, c.net());
    }

    private static void passNights() {
        CircusLedger c = Make.weakFour();
        c.show(15);
        Check.same("7 two are injured", 2, c.passNights(1));
        Check.same("7 nights until fit", 1, c.nightsUntilFit(0));
        Check.same("7 all are fit", 0, c.passNights(1));
        Check.same("7 night", 3, c.night());
        Check.same("7 ninety-nine", 0, c.passNights(99));
        Check.same("7 night later", 102, c.night());
        Check.same("7 not below 0", 0, c.nightsUntilFit(0));
        Check.refused("7 none", IllegalArgumentException.class, () -> c.passNights(0));
        Check.refused("7 negative", IllegalArgumentException.class, () -> c.passNights(-1));
        Check.refused("7 a hundred", IllegalArgumentException.class, () -> c.passNights(100));
        Check.same("7 unchanged", 102, c.night());
    }

    private static void closeBooks() {
        CircusLedger c = Make.evenTrio();
        Check.same("8 empty", 0, c.closeBooks());
        c.post(0, 2, 70);
        c.post(1, 0, 20);
        Check.same("8 two", 2, c.closeBooks());
        Check.same("8 journal is empty", 0, c.entryCount());
        Check.same("8 balances stay", 50, c.balance(0));
        Check.same("8 reserve stays", 20, c.balance(1));
        Check.same("8 starts at 0", 0, c.post(0, 2, 5));
        Check.same("8 balance goes on", 55, c.balanceByJournal(0));
        Make.withEntries(c, 60);
        Check.same("8 sixty", 60, c.closeBooks());
        Check.same("8 room again", 0, c.post(0, 2, 5));
    }

    private static void cancel() {
        CircusLedger c = Make.evenTrio();
        c.post(5, 6, 30);
        c.post(5, 7, 20);
        Check.same("9 the smaller one", 20, c.cancel(5, 7));
        Check.same("9 entry", "7>5=20", Make.output(c, c.renderEntry(2)));
        Check.same("9 nothing is left", 0, c.balance(7));
        Check.same("9 rest", 30, c.balance(5));
        Check.same("9 other order", 30, c.cancel(6, 5));
        Check.same("9 other order entry", "6>5=30", Make.output(c, c.renderEntry(3)));
        Check.same("9 both are 0", 0, c.balance(5) + c.balance(6));
        CircusLedger rich = Make.evenTrio();
        rich.post(0, 2, 9999);
        rich.post(0, 2, 9999);
        Check.same("9 more than can be posted", 19998, rich.cancel(0, 2));
        Check.same("9 cash is 0", 0, rich.balance(0));
        rich.post(3, 4, 10);
        rich.post(5, 6, 40);
        Check.same("9 the positive one is smaller", 10, rich.cancel(3, 6));
        Check.same("9 the negative one keeps the rest", -30, rich.balance(6));
        CircusLedger last = Make.withEntries(new CircusLedger(), 59);
        Check.same("9 the last entry", 59, last.cancel(2, 3));
        Check.same("9 the journal is full", 60, last.entryCount());
        CircusLedger coin = Make.withEntries(new CircusLedger(), 1);
        Check.same("9 one coin", 1, coin.cancel(3, 2));
    }

    private static void cancelRefuses() {
        CircusLedger c = Make.evenTrio();
        c.post(5, 6, 30);
        c.post(3, 4, 10);
        Class<IndexOutOfBoundsException> index = IndexOutOfBoundsException.class;
        Class<IllegalStateException> state = IllegalStateException.class;
        Check.refused("9 first too great", index, () -> c.cancel(8, 6));
        Check.refused("9 second too great", index, () -> c.cancel(5, 8));
        Check.refused("9 first negative", index, () -> c.cancel(-1, 6));
        Check.refused("9 second negative", index, () -> c.cancel(5, -1));
        Check.refused("9 both positive", state, () -> c.cancel(3, 5));
        Check.refused("9 both negative", state, () -> c.cancel(4, 6));
        Check.refused("9 second is 0", state, () -> c.cancel(5, 0));
        Check.refused("9 first is 0", state, () -> c.cancel(0, 6));
        Check.refused("9 same account", state, () -> c.cancel(5, 5));
        Check.refused("9 both 0", state, () -> c.cancel(0, 1));
        Check.same("9 nothing changed", 2, c.entryCount());
        Make.withEntries(c, 60);
        Check.refused("9 full", state, () -> c.cancel(5, 6));
        Check.refused("9 index before full", index, () -> c.cancel(5, 8));
    }
}
