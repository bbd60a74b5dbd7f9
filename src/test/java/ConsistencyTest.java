import java.lang.reflect.Field;

/**
 * Promise 47 in states that no run of calls can reach. In those that can be reached all that isConsistent compares is
 * alike, so here the object's own rows are made to differ, each time in a single one of the four ways.
 */
public final class ConsistencyTest {
    public static void main(String[] args) {
        aBalanceThatTheJournalDoesNotTell();
        balancesThatDoNotAddUp();
        transfersThatDisagree();
        heightsThatDisagree();
        Check.finish();
    }

    private static CircusLedger played() {
        CircusLedger c = Make.funded(Make.weakFour(), 30, 12);
        c.show(15);
        Check.same("47 as it was played", true, c.isConsistent());
        return c;
    }

    private static void aBalanceThatTheJournalDoesNotTell() {
        for (int account = 0; account < 9; account++) {
            CircusLedger c = played();
            int other = account == 0 ? 8 : account - 1;
            row(c, "books", "balances")[account]++;
            row(c, "books", "balances")[other]--;
            row(c, "books", "balancesAtClosing")[other]--;
            Check.same("47 the journal does not tell the balance of " + account, false, c.isConsistent());
            row(c, "books", "balancesAtClosing")[account]++;
            Check.same("47 it tells the balance of " + account, true, c.isConsistent());
        }
    }

    private static void balancesThatDoNotAddUp() {
        for (int account = 0; account < 9; account++) {
            CircusLedger c = played();
            row(c, "books", "balances")[account] += 1000;
            row(c, "books", "balancesAtClosing")[account] += 1000;
            Check.same("47 the sum is not 0, by account " + account, false, c.isConsistent());
        }
    }

    /** These two balances add up to 0 only because the sum is too great for an int. */
    private static void transfersThatDisagree() {
        CircusLedger c = new CircusLedger();
        for (String row : new String[] {"balances", "balancesAtClosing"}) {
            row(c, "books", row)[3] = Integer.MIN_VALUE;
            row(c, "books", row)[4] = Integer.MIN_VALUE;
        }
        Check.same("39 one group", 1, c.fewestTransfers());
        Check.same("40 none can be settled with the other", false, c.fewestTransfersBySearch() == 1);
        Check.same("47 the transfers disagree", false, c.isConsistent());
    }

    /** With a weight below 0, acrobats may stand in another order though they do not in the one of their sums. */
    private static void heightsThatDisagree() {
        CircusLedger c = new CircusLedger();
        c.addAcrobat(30, 100, 150, 1);
        c.addAcrobat(30, 0, 150, 1);
        c.addAcrobat(30, 0, 150, 1);
        Check.same("47 before", true, c.isConsistent());
        row(c, "troupe", "weights")[0] = -50;
        row(c, "troupe", "weights")[2] = 10;
        Check.same("24 not all three", 300, c.bestHeight());
        Check.same("25 all three", 450, c.bestHeightBySearch());
        Check.same("47 the heights disagree", false, c.isConsistent());
    }

    private static int[] row(CircusLedger circus, String part, String name) {
        return (int[]) valueOf(valueOf(valueOf(circus, "now"), part), name);
    }

    private static Object valueOf(Object owner, String name) {
        try {
            Field field = owner.getClass().getDeclaredField(name);
            field.setAccessible(true);
            return field.get(owner);
        } catch (ReflectiveOperationException e) {
            throw new AssertionError(e);
        }
    }
}
