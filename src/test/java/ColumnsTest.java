import java.util.NoSuchElementException;

/** Promises 10 to 28: acrobats and columns. */
public final class ColumnsTest {
    private static final int[] NOT_SETS_OF_FOUR = {0, 16, 17, 31, 64, -1, -16, Integer.MIN_VALUE, Integer.MAX_VALUE};

    public static void main(String[] args) {
        acrobatCount();
        measures();
        noSuchAcrobat();
        injuries();
        wrongSets();
        canStand();
        acrobatAt();
        loadOn();
        columnHeight();
        overloaded();
        damages();
        isCovered();
        bestHeight();
        bestColumnOfSeveral();
        safety();
        safetyRefuses();
        Check.finish();
    }

    private static void acrobatCount() {
        CircusLedger c = new CircusLedger();
        Check.same("10 none", 0, c.acrobatCount());
        c.addAcrobat(60, 90, 150, 10);
        Check.same("10 one", 1, c.acrobatCount());
        Check.same("10 six", 6, Make.strongSix().acrobatCount());
    }

    private static void measures() {
        CircusLedger c = Make.weakFour();
        Check.same("11 first", 40, c.weight(0));
        Check.same("11 last", 80, c.weight(3));
        Check.same("12 first", 0, c.strength(0));
        Check.same("12 last", 300, c.strength(3));
        Check.same("13 first", 101, c.height(0));
        Check.same("13 last", 134, c.height(3));
        Check.same("14 first", 1, c.wage(0));
        Check.same("14 last", 4, c.wage(3));
    }

    private static void noSuchAcrobat() {
        CircusLedger c = Make.weakFour();
        Class<IndexOutOfBoundsException> index = IndexOutOfBoundsException.class;
        for (int acrobat : new int[] {-1, 4, 5, 6, Integer.MIN_VALUE, Integer.MAX_VALUE}) {
            Check.refused("11 acrobat " + acrobat, index, () -> c.weight(acrobat));
            Check.refused("12 acrobat " + acrobat, index, () -> c.strength(acrobat));
            Check.refused("13 acrobat " + acrobat, index, () -> c.height(acrobat));
            Check.refused("14 acrobat " + acrobat, index, () -> c.wage(acrobat));
            Check.refused("15 acrobat " + acrobat, index, () -> c.isInjured(acrobat));
            Check.refused("16 acrobat " + acrobat, index, () -> c.nightsUntilFit(acrobat));
        }
    }

    private static void injuries() {
        CircusLedger c = Make.weakFour();
        Check.same("15 fit at first", false, c.isInjured(0));
        Check.same("16 fit at first", 0, c.nightsUntilFit(0));
        c.show(15);
        Check.same("15 injured", true, c.isInjured(0));
        Check.same("16 injured", 2, c.nightsUntilFit(0));
        c.show(8);
        Check.same("15 after the next show", true, c.isInjured(0));
        Check.same("16 after the next show", 1, c.nightsUntilFit(0));
        c.passNights(1);
        Check.same("15 fit again", false, c.isInjured(0));
        Check.same("16 fit again", 0, c.nightsUntilFit(0));
        Check.same("5 takes part again", -20, c.show(15));
        Check.same("16 injured again", 2, c.nightsUntilFit(0));
    }

    private static void wrongSets() {
        CircusLedger c = Make.weakFour();
        Class<IllegalArgumentException> argument = IllegalArgumentException.class;
        for (int set : NOT_SETS_OF_FOUR) {
            Check.refused("17 set " + set, argument, () -> c.canStand(set));
            Check.refused("18 set " + set, argument, () -> c.acrobatAt(set, -1));
            Check.refused("18 set and place " + set, argument, () -> c.acrobatAt(set, 0));
            Check.refused("19 set " + set, argument, () -> c.loadOn(set, 0));
            Check.refused("19 set and acrobat " + set, argument, () -> c.loadOn(set, 7));
            Check.refused("20 set " + set, argument, () -> c.columnHeight(set));
            Check.refused("21 set " + set, argument, () -> c.overloaded(set));
            Check.refused("22 set " + set, argument, () -> c.damages(set));
            Check.refused("23 set " + set, argument, () -> c.isCovered(set));
            Check.refused("27 set " + set, argument, () -> c.safety(set));
            Check.refused("28 set " + set, argument, () -> c.safetyBits(set));
            Check.refused("48 set " + set, argument, () -> c.renderColumn(set));
        }
        CircusLedger six = Make.strongSix();
        Check.same("20 all six", 645, six.columnHeight(63));
        Check.refused("20 a seventh", argument, () -> six.columnHeight(64));
    }

    private static void canStand() {
        CircusLedger c = Make.weakFour();
        Check.same("17 all", false, c.canStand(15));
        Check.same("17 one without strength", true, c.canStand(1));
        Check.same("17 strong below", true, c.canStand(10));
        Check.same("17 weak below", false, c.canStand(6));
        Check.same("17 only the middle one is weak", false, c.canStand(14));
        CircusLedger even = Make.evenTrio();
        Check.same("17 load is as great as the strength", true, even.canStand(7));
        CircusLedger edge = new CircusLedger();
        edge.addAcrobat(60, 59, 150, 1);
        edge.addAcrobat(60, 40, 150, 1);
        Check.same("17 load is greater by 1", false, edge.canStand(3));
    }

    private static void acrobatAt() {
        CircusLedger c = Make.weakFour();
        int[] due = {3, 1, 2, 0};
        for (int place = 0; place < due.length; place++) {
            Check.same("18 place " + place, due[place], c.acrobatAt(15, place));
        }
        Check.same("18 a part of them", 2, c.acrobatAt(5, 0));
        Check.same("18 the rest of them", 0, c.acrobatAt(5, 1));
        CircusLedger even = Make.evenTrio();
        Check.same("18 equal sums, lowest", 1, even.acrobatAt(6, 0));
        Check.same("18 equal sums, highest", 2, even.acrobatAt(6, 1));
        Class<NoSuchElementException> none = NoSuchElementException.class;
        Check.refused("18 above", none, () -> c.acrobatAt(15, 4));
        Check.refused("18 above a part", none, () -> c.acrobatAt(5, 2));
        Check.refused("18 negative", none, () -> c.acrobatAt(15, -1));
        Check.refused("18 least", none, () -> c.acrobatAt(15, Integer.MIN_VALUE));
        Check.refused("18 greatest", none, () -> c.acrobatAt(15, Integer.MAX_VALUE));
    }

    private static void loadOn() {
        CircusLedger c = Make.weakFour();
        Check.same("19 lowest", 160, c.loadOn(15, 3));
        Check.same("19 second", 90, c.loadOn(15, 1));
        Check.same("19 third", 40, c.loadOn(15, 2));
        Check.same("19 highest", 0, c.loadOn(15, 0));
        Check.same("19 part", 40, c.loadOn(9, 3));
        CircusLedger even = Make.evenTrio();
        Check.same("19 equal sums, lower", 90, even.loadOn(7, 0));
        Check.same("19 equal sums, middle", 30, even.loadOn(7, 1));
        Class<NoSuchElementException> none = NoSuchElementException.class;
        Check.refused("19 not in the set", none, () -> c.loadOn(9, 1));
        Check.refused("19 negative", none, () -> c.loadOn(15, -1));
        Check.refused("19 not there", none, () -> c.loadOn(15, 4));
        Check.refused("19 far off", none, () -> c.loadOn(15, 32));
        Check.refused("19 far below", none, () -> c.loadOn(15, -32));
        Check.refused("19 least", none, () -> c.loadOn(15, Integer.MIN_VALUE));
    }

    private static void columnHeight() {
        CircusLedger c = Make.weakFour();
        Check.same("20 one", 101, c.columnHeight(1));
        Check.same("20 two", 235, c.columnHeight(9));
        Check.same("20 all, though they fall", 470, c.columnHeight(15));
    }

    private static void overloaded() {
        CircusLedger c = Make.weakFour();
        Check.same("21 the lowest one", 1, c.overloaded(15));
        Check.same("21 without that one", 2, c.overloaded(13));
        Class<NoSuchElementException> none = NoSuchElementException.class;
        Check.refused("21 stands", none, () -> c.overloaded(10));
        Check.refused("21 one stands", none, () -> c.overloaded(1));
    }

    private static void damages() {
        CircusLedger c = Make.weakFour();
        Check.same("22 two fall", 20, c.damages(15));
        Check.same("22 one falls", 10, c.damages(13));
        Check.same("22 stands", 0, c.damages(10));
        CircusLedger weak = new CircusLedger();
        for (int i = 0; i < 6; i++) {
            weak.addAcrobat(30, 0, 100, 1);
        }
        Check.same("22 five fall", 50, weak.damages(63));
        Check.same("5 five fall", -50, weak.show(63));
        Check.same("44 five fell", 5, weak.fallenTotal());
    }

    private static void isCovered() {
        CircusLedger c = Make.funded(Make.weakFour(), 500, 19);
        Check.same("23 one too few", false, c.isCovered(15));
        Check.same("23 enough for one", true, c.isCovered(13));
        c.post(1, 2, 1);
        Check.same("23 just enough", true, c.isCovered(15));
        Check.same("23 nothing to cover", true, Make.weakFour().isCovered(8));
        Check.same("23 nothing there", false, Make.weakFour().isCovered(15));
    }

    private static void bestHeight() {
        CircusLedger none = new CircusLedger();
        best("nobody", none, 0, 0);
        best("all stand", Make.evenTrio(), 480, 7);
        CircusLedger c = Make.weakFour();
        best("some stand", c, 134 + 123, 12);
        c.show(15);
        best("two are injured", c, 134 + 112, 10);
        c.passNights(2);
        best("all are fit again", c, 134 + 123, 12);
        CircusLedger pair = new CircusLedger();
        pair.addAcrobat(30, 29, 150, 1);
        pair.addAcrobat(30, 0, 140, 1);
        best("they cannot stand together", pair, 150, 1);
        pair.show(3);
        best("one is injured", pair, 150, 1);
        CircusLedger six = Make.strongSix();
        best("six", six, 645, 63);
    }

    private static void best(String what, CircusLedger c, int height, int set) {
        Check.same("24 " + what, height, c.bestHeight());
        Check.same("25 " + what, height, c.bestHeightBySearch());
        Check.same("26 " + what, set, c.bestColumn());
    }

    private static void bestColumnOfSeveral() {
        CircusLedger c = new CircusLedger();
        c.addAcrobat(30, 0, 120, 1);
        c.addAcrobat(30, 0, 150, 1);
        c.addAcrobat(30, 0, 150, 1);
        best("of two the smaller set", c, 150, 2);
        CircusLedger injured = new CircusLedger();
        injured.addAcrobat(30, 0, 120, 1);
        Check.same("24 one", 120, injured.bestHeight());
        CircusLedger all = new CircusLedger();
        all.addAcrobat(40, 0, 120, 1);
        all.addAcrobat(30, 0, 130, 1);
        all.show(3);
        best("the overloaded one stays fit", all, 120, 1);
    }

    private static void safety() {
        CircusLedger c = Make.evenTrio();
        safe("two", c, 3, 90f / 60f);
        safe("three", c, 7, 1f);
        safe("the least of them", c, 5, 3f);
        CircusLedger weak = Make.weakFour();
        safe("no strength at the top", weak, 9, 7.5f);
        safe("a column that falls", weak, 15, 20f / 90f);
        safe("a quarter", weak, 5, 0.25f);
        safe("a weak one who is not in the set", weak, 10, 300f / 70f);
        CircusLedger zero = new CircusLedger();
        zero.addAcrobat(90, 0, 100, 1);
        zero.addAcrobat(70, 0, 100, 1);
        safe("nothing carried", zero, 3, 0f);
        CircusLedger most = new CircusLedger();
        most.addAcrobat(30, 0, 100, 1);
        most.addAcrobat(30, 400, 100, 1);
        safe("the greatest", most, 3, 400f / 30f);
        CircusLedger least = new CircusLedger();
        for (int i = 0; i < 6; i++) {
            least.addAcrobat(120, 1, 100, 1);
        }
        safe("the least", least, 63, 1f / 600f);
        safe("below 1", least, 3, 1f / 120f);
    }

    private static void safe(String what, CircusLedger c, int set, float due) {
        Check.same("27 " + what, due, c.safety(set));
        Check.same("28 " + what, Float.floatToIntBits(due), c.safetyBits(set));
    }

    private static void safetyRefuses() {
        CircusLedger c = Make.weakFour();
        for (int set = 1; set < 16; set *= 2) {
            int one = set;
            Check.refused("27 one " + set, ArithmeticException.class, () -> c.safety(one));
            Check.refused("28 one " + set, ArithmeticException.class, () -> c.safetyBits(one));
        }
    }
}
