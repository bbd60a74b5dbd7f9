import java.util.ArrayList;
import java.util.List;
import java.util.NoSuchElementException;

/** Promises 55 to 57: undo, save and restore. */
public final class UndoTest {
    public static void main(String[] args) {
        undoEachChange();
        undoAtMostEight();
        undoAndGoOn();
        refusedCallsAreNoChanges();
        sameStateIsAChange();
        othersAreNoChanges();
        saveAndRestore();
        restoreEveryPart();
        restoreRefuses();
        Check.finish();
    }

    private static void undoEachChange() {
        CircusLedger c = Make.funded(Make.weakFour(), 90, 15);
        c.save();
        c.restore();
        List<Check.Call> changes = List.of(() -> c.addAcrobat(60, 90, 150, 10), () -> c.post(0, 8, 44),
                () -> c.payOut(4, 13), () -> c.show(15), () -> c.setNet(2), () -> c.cancel(2, 3),
                c::closeBooks, () -> Make.run(c, "night 5;net 1;post 0>2 8"));
        List<String> states = new ArrayList<>();
        for (Check.Call change : changes) {
            states.add(Make.state(c));
            change.answer();
        }
        for (int left = 7; left >= 0; left--) {
            Check.same("55 left", left, c.undo());
            Check.same("55 state " + left, states.get(left), Make.state(c));
        }
        Check.refused("55 nothing left", NoSuchElementException.class, c::undo);
        c.show(15);
        String fallen = Make.state(c);
        c.passNights(2);
        Check.same("55 a night", 1, c.undo());
        Check.same("55 injured again", fallen, Make.state(c));
    }

    private static void undoAtMostEight() {
        CircusLedger c = new CircusLedger();
        for (int night = 1; night <= 20; night++) {
            c.passNights(1);
        }
        for (int left = 7; left >= 0; left--) {
            Check.same("55 left", left, c.undo());
            Check.same("55 night", 12 + left, c.night());
        }
        Check.refused("55 the ninth", NoSuchElementException.class, c::undo);
        Check.same("55 it stays", 12, c.night());
    }

    private static void undoAndGoOn() {
        CircusLedger c = new CircusLedger();
        for (int night = 1; night <= 11; night++) {
            c.passNights(1);
        }
        for (int left = 7; left >= 3; left--) {
            c.undo();
        }
        Check.same("55 undone", 6, c.night());
        for (int i = 0; i < 4; i++) {
            c.passNights(10);
        }
        Check.same("55 seven", 6, c.undo());
        Check.same("55 night", 36, c.night());
        for (int left = 5; left >= 0; left--) {
            Check.same("55 left", left, c.undo());
        }
        Check.same("55 back at the oldest", 3, c.night());
        Check.refused("55 undone changes are gone", NoSuchElementException.class, c::undo);
    }

    private static void refusedCallsAreNoChanges() {
        CircusLedger c = Make.weakFour();
        c.setNet(3);
        Check.refused("2", IllegalArgumentException.class, () -> c.addAcrobat(0, 0, 0, 0));
        Check.refused("3", UnsupportedOperationException.class, () -> c.post(2, 0, 1));
        Check.refused("4", UnsupportedOperationException.class, () -> c.payOut(0, 1));
        Check.refused("5", IllegalArgumentException.class, () -> c.show(0));
        Check.refused("6", IllegalArgumentException.class, () -> c.setNet(6));
        Check.refused("7", IllegalArgumentException.class, () -> c.passNights(0));
        Check.refused("9", IllegalStateException.class, () -> c.cancel(0, 1));
        Check.refused("52", IllegalArgumentException.class, c::runScript);
        Check.refused("52", IllegalStateException.class, () -> Make.run(c, "net 1;net 6"));
        Check.same("55 four before the net", 4, c.undo());
        Check.same("55 no net", 0, c.net());
    }

    private static void sameStateIsAChange() {
        CircusLedger c = new CircusLedger();
        c.setNet(0);
        c.closeBooks();
        Make.run(c, "net 0;close");
        Check.same("55 two left", 2, c.undo());
        Check.same("55 one left", 1, c.undo());
        Check.same("55 none left", 0, c.undo());
    }

    private static void othersAreNoChanges() {
        CircusLedger c = Make.evenTrio();
        c.save();
        c.type('n');
        c.renderColumn(7);
        c.isConsistent();
        c.bestColumn();
        Check.same("55 two left", 2, c.undo());
        Check.same("55 an acrobat went", 2, c.acrobatCount());
        Check.same("55 the account went", 7, c.accountCount());
        Check.refused("55 no such account", IndexOutOfBoundsException.class, () -> c.balance(7));
    }

    private static void saveAndRestore() {
        CircusLedger c = Make.weakFour();
        c.setNet(1);
        Make.funded(c, 50, 10);
        c.show(15);
        c.post(0, 2, 3);
        Check.same("56 acrobats", 4, c.save());
        String saved = Make.state(c);
        c.addAcrobat(60, 90, 150, 10);
        c.passNights(3);
        c.show(15);
        c.closeBooks();
        c.setNet(5);
        Check.same("57 acrobats", 4, c.restore());
        Check.same("57 state", saved, Make.state(c));
        Check.refused("57 nothing to undo", NoSuchElementException.class, c::undo);
        c.passNights(1);
        Check.same("57 it is kept", 4, c.restore());
        Check.same("57 state again", saved, Make.state(c));
        c.passNights(5);
        c.addAcrobat(60, 90, 150, 10);
        Check.same("56 replaces", 5, c.save());
        Check.same("56 saving is no change", 1, c.undo());
        Check.same("57 later one", 5, c.restore());
        c.setNet(4);
        Check.same("57 undo after it", 0, c.undo());
        Check.same("57 as restored", 1, c.net());
        c.setNet(4);
        c.undo();
        c.save();
        c.setNet(3);
        Check.same("57 undo leaves the snapshot", 5, c.restore());
        Check.same("57 its net", 1, c.net());
    }

    private static void restoreEveryPart() {
        CircusLedger c = new CircusLedger();
        c.addAcrobat(60, 90, 150, 10);
        c.post(3, 2, 1);
        c.save();
        String saved = Make.state(c);
        c.undo();
        c.undo();
        c.addAcrobat(61, 91, 151, 11);
        c.post(4, 5, 2);
        c.save();
        String other = Make.state(c);
        c.undo();
        c.undo();
        c.addAcrobat(60, 90, 150, 10);
        c.post(3, 2, 1);
        Check.same("57 as saved first", saved, Make.state(c));
        c.restore();
        Check.same("57 as saved later", other, Make.state(c));
        c.closeBooks();
        c.post(0, 3, 7);
        c.undo();
        c.undo();
        Check.same("55 the journal is back", other, Make.state(c));
        Check.same("55 so are the balances", true, c.isConsistent());
    }

    private static void restoreRefuses() {
        CircusLedger c = Make.evenTrio();
        Check.refused("57 no snapshot", IllegalStateException.class, c::restore);
        Check.same("57 undo is still there", 2, c.undo());
        CircusLedger empty = new CircusLedger();
        Check.same("56 nobody", 0, empty.save());
        empty.addAcrobat(60, 90, 150, 10);
        Check.same("57 nobody", 0, empty.restore());
        Check.same("57 no acrobats", 0, empty.acrobatCount());
    }
}
