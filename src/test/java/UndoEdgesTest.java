import java.util.ArrayDeque;
import java.util.ArrayList;
import java.util.Deque;
import java.util.EnumSet;
import java.util.List;
import java.util.NoSuchElementException;
import java.util.Set;

/** The sentences on changes, undo and the snapshot that name a boundary case. */
public final class UndoEdgesTest {
    private static final int KEPT = 8;
    private static final Class<NoSuchElementException> NOT_THERE = NoSuchElementException.class;
    /** What undo and the snapshot do not cover, as far as the state behind it does not show in it. */
    private static final Set<Twin.View> NOT_COVERED = EnumSet.of(Twin.View.OUTPUT, Twin.View.ERROR_POSITION,
            Twin.View.FAILED_COMMAND, Twin.View.SCRIPT_LENGTH, Twin.View.SNAPSHOT);

    public static void main(String[] args) {
        eachKindOfCallIsOneChange();
        aCallThatLeavesTheStateIsAChange();
        theLatestEightCanBeUndone();
        undoneChangesMakeRoomAgain();
        undoIsNoChange();
        otherCallsAreNoChanges();
        undoLeavesWhatItDoesNotCover();
        restoreLeavesWhatItDoesNotCover();
        restoreLeavesNothingToUndo();
        theSnapshotIsKept();
        theLatestSnapshotCounts();
        saveAndRestoreTellTheNumberOfAcrobats();
        Check.finish();
    }

    private static List<Twin.Act> kindsOfChanges() {
        return List.of(c -> c.addAcrobat(60, 200, 150, 25), c -> c.post(0, 2, 3), c -> c.payOut(1, 2), c -> c.show(8),
                c -> c.show(14), c -> c.setNet(4), c -> c.passNights(2), c -> c.closeBooks(), c -> c.cancel(0, 2),
                c -> Make.run(c, "close;night;net 5"));
    }

    private static void eachKindOfCallIsOneChange() {
        int kind = 0;
        for (Twin.Act change : kindsOfChanges()) {
            Twin.Recipe restored = () -> {
                CircusLedger circus = Make.lively("");
                circus.restore();
                return circus;
            };
            CircusLedger c = restored.made();
            c.passNights(3);
            String before = Make.state(c);
            change.on(c);
            Check.same("55 kind " + kind + " changes the state", false, before.equals(Make.state(c)));
            CircusLedger undone = restored.made();
            undone.passNights(3);
            change.on(undone);
            Check.same("55 kind " + kind + " is one change", 1, undone.undo());
            Check.same("55 kind " + kind + " undone", before, Make.state(undone));
            Check.same("55 kind " + kind + " and the one before", 0, undone.undo());
            Check.same("55 kind " + kind + " as restored", Make.state(restored.made()), Make.state(undone));
            Check.refused("55 kind " + kind + " was all", NOT_THERE, undone::undo);
            kind++;
        }
    }

    private static void aCallThatLeavesTheStateIsAChange() {
        List<Twin.Act> idle = List.of(c -> c.setNet(0), c -> c.closeBooks(), c -> Make.run(c, "net 0"),
                c -> Make.run(c, "close;net 0;close"));
        int kind = 0;
        for (Twin.Act change : idle) {
            CircusLedger c = new CircusLedger();
            c.passNights(1);
            String before = Make.state(c);
            change.on(c);
            Check.same("55 idle " + kind, before, Make.state(c));
            Check.same("55 idle " + kind + " is a change", 1, c.undo());
            Check.same("55 idle " + kind + " is undone", before, Make.state(c));
            Check.same("55 before idle " + kind, 0, c.undo());
            Check.same("41 before idle " + kind, 0, c.night());
            kind++;
        }
    }

    private static void theLatestEightCanBeUndone() {
        for (int changes = 0; changes <= 30; changes++) {
            CircusLedger c = new CircusLedger();
            for (int i = 0; i < changes; i++) {
                c.passNights(1);
            }
            int undone = Math.min(KEPT, changes);
            for (int i = 1; i <= undone; i++) {
                Check.same("55 left of " + changes, undone - i, c.undo());
                Check.same("41 the latest first, of " + changes, changes - i, c.night());
            }
            Check.refused("55 no more of " + changes, NOT_THERE, c::undo);
            Check.same("41 the oldest stay, of " + changes, changes - undone, c.night());
        }
    }

    /** Some changes, some of them undone, some more: compared with a pile that forgets its lowest one. */
    private static void undoneChangesMakeRoomAgain() {
        for (int first = 6; first <= 12; first++) {
            for (int undone = 0; undone <= Math.min(KEPT, first); undone++) {
                for (int more = 0; more <= 10; more++) {
                    undoneChangesMakeRoomAgain(first, undone, more);
                }
            }
        }
    }

    private static void undoneChangesMakeRoomAgain(int first, int undone, int more) {
        String what = first + " changes, " + undone + " undone, " + more + " more";
        CircusLedger c = new CircusLedger();
        Deque<Integer> nights = new ArrayDeque<>();
        for (int i = 0; i < first; i++) {
            pile(nights, c.night());
            c.passNights(1);
        }
        for (int i = 0; i < undone; i++) {
            c.undo();
            nights.removeLast();
        }
        for (int i = 0; i < more; i++) {
            pile(nights, c.night());
            c.passNights(20);
        }
        while (!nights.isEmpty()) {
            int due = nights.removeLast();
            Check.same("55 " + what, nights.size(), c.undo());
            Check.same("41 " + what, due, c.night());
        }
        Check.refused("55 " + what, NOT_THERE, c::undo);
    }

    private static void pile(Deque<Integer> nights, int night) {
        nights.addLast(night);
        if (nights.size() > KEPT) {
            nights.removeFirst();
        }
    }

    private static void undoIsNoChange() {
        CircusLedger c = new CircusLedger();
        c.setNet(1);
        c.setNet(2);
        Check.same("55 one left", 1, c.undo());
        Check.same("42 the first", 1, c.net());
        Check.same("55 none left", 0, c.undo());
        Check.same("42 the undo is not undone", 0, c.net());
    }

    /** Everything that is not listed as a change leaves all that can be undone, and the state. */
    private static void otherCallsAreNoChanges() {
        List<Twin.Act> asking = List.of(c -> c.acrobatCount(), c -> c.weight(0), c -> c.strength(0), c -> c.height(0),
                c -> c.wage(0), c -> c.isInjured(0), c -> c.nightsUntilFit(0), c -> c.canStand(15),
                c -> c.acrobatAt(15, 0), c -> c.loadOn(15, 0), c -> c.columnHeight(15), c -> c.overloaded(15),
                c -> c.damages(15), c -> c.isCovered(15), c -> c.bestHeight(), c -> c.bestHeightBySearch(),
                c -> c.bestColumn(), c -> c.safety(15), c -> c.safetyBits(15), c -> c.accountCount(), c -> c.balance(0),
                c -> c.balanceByJournal(0), c -> c.debits(0), c -> c.credits(0), c -> c.entryCount(), c -> c.debitOf(0),
                c -> c.creditOf(0), c -> c.amountOf(0), c -> c.accountByBalance(0), c -> c.fewestTransfers(),
                c -> c.fewestTransfersBySearch(), c -> c.night(), c -> c.net(), c -> c.showTotal(),
                c -> c.fallenTotal(), c -> c.meanPositive(), c -> c.meanPositiveBits(), c -> c.isConsistent(),
                c -> c.outputAt(0), c -> c.errorPosition(), c -> c.failedCommand());
        asked(asking, EnumSet.allOf(Twin.View.class));
        asked(List.of(c -> c.renderColumn(15), c -> c.renderEntry(0)), allBut(Twin.View.OUTPUT));
        asked(List.of(c -> c.type('s')), allBut(Twin.View.SCRIPT_LENGTH, Twin.View.SCRIPT));
        asked(List.of(c -> c.save()), allBut(Twin.View.SNAPSHOT));
    }

    private static void asked(List<Twin.Act> asking, Set<Twin.View> views) {
        for (int i = 0; i < asking.size(); i++) {
            Twin.onlyAnswers("55 call " + i, views, Make::lively, asking.get(i));
        }
    }

    private static Set<Twin.View> allBut(Twin.View... changed) {
        return EnumSet.complementOf(EnumSet.copyOf(List.of(changed)));
    }

    private static void undoLeavesWhatItDoesNotCover() {
        for (int steps = 1; steps <= KEPT; steps++) {
            int undone = steps;
            Twin.onlyAnswers("55 undo of " + steps, NOT_COVERED, Make::lively, c -> {
                for (int i = 0; i < undone; i++) {
                    c.undo();
                }
                return undone;
            });
        }
        CircusLedger c = Make.lively();
        c.undo();
        Check.same("55 the typed script is whole", 2, c.runScript());
        Check.same("55 it takes effect on the earlier state", 3, c.net());
        CircusLedger told = Make.evenTrio();
        told.post(0, 2, 45);
        told.renderEntry(0);
        told.save();
        told.undo();
        Check.same("55 the text of an entry that is gone", "0>2=45", Make.output(told, 6));
        Check.refused("49 the entry is gone", IndexOutOfBoundsException.class, () -> told.renderEntry(0));
        Check.same("57 the snapshot has the entry", 3, told.restore());
        Check.same("34 the snapshot has the entry", 1, told.entryCount());
        CircusLedger unsaved = Make.evenTrio();
        unsaved.undo();
        Check.refused("57 undo takes no snapshot", IllegalStateException.class, unsaved::restore);
    }

    private static void restoreLeavesWhatItDoesNotCover() {
        Twin.onlyAnswers("57 restore", NOT_COVERED, Make::lively, c -> c.restore());
        CircusLedger c = Make.lively();
        c.restore();
        Check.same("57 the typed script is whole", 2, c.runScript());
        Check.same("57 it takes effect on the restored state", 2, c.night());
        Check.same("55 and can be undone", 0, c.undo());
    }

    private static void restoreLeavesNothingToUndo() {
        CircusLedger c = Make.lively();
        Check.same("57 acrobats", 4, c.restore());
        Check.refused("55 nothing to undo", NOT_THERE, c::undo);
        for (int i = 1; i <= 3; i++) {
            c.passNights(1);
        }
        for (int left = 2; left >= 0; left--) {
            Check.same("55 only those behind the restore", left, c.undo());
        }
        Check.refused("55 not farther than the restore", NOT_THERE, c::undo);
        Check.same("41 as restored", 1, c.night());
        CircusLedger same = new CircusLedger();
        same.setNet(2);
        same.save();
        same.restore();
        Check.refused("55 nothing to undo though nothing has changed", NOT_THERE, same::undo);
    }

    private static void theSnapshotIsKept() {
        CircusLedger c = Make.lively();
        List<String> states = new ArrayList<>();
        for (int i = 0; i < 3; i++) {
            Check.same("57 again", 4, c.restore());
            states.add(Make.briefState(c));
            c.addAcrobat(60, 200, 150, 25);
            c.show(8);
            c.closeBooks();
            c.setNet(5);
            c.undo();
        }
        Check.same("57 the second time", states.get(0), states.get(1));
        Check.same("57 the third time", states.get(0), states.get(2));
    }

    private static void theLatestSnapshotCounts() {
        CircusLedger c = new CircusLedger();
        c.save();
        c.setNet(1);
        c.save();
        c.setNet(2);
        Check.same("55 save is no change", 1, c.undo());
        Check.same("42 undone", 1, c.net());
        c.setNet(3);
        c.restore();
        Check.same("57 the later one", 1, c.net());
        c.setNet(4);
        c.save();
        c.undo();
        Check.same("42 undone again", 1, c.net());
        c.restore();
        Check.same("57 undo does not reach the snapshot", 4, c.net());
    }

    private static void saveAndRestoreTellTheNumberOfAcrobats() {
        for (int count = 0; count <= 6; count++) {
            CircusLedger c = Make.helpless(count);
            Check.same("56 acrobats", count, c.save());
            if (count < 6) {
                c.addAcrobat(60, 200, 150, 25);
            }
            Check.same("57 acrobats", count, c.restore());
            Check.same("10 acrobats", count, c.acrobatCount());
            Check.same("29 accounts", 5 + count, c.accountCount());
        }
    }
}
