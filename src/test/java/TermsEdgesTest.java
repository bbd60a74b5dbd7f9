/** The sentences of "Terms" (and the answers of promises 1 to 49) that name a boundary case, one method a sentence. */
public final class TermsEdgesTest {
    public static void main(String[] args) {
        aNewCircusIsEmpty();
        divisionsRoundDown();
        acrobatsHaveIndicesInTheirOrder();
        measuresAreTakenFromTheLeastToTheGreatest();
        setsAreSumsOfPowersOfTwo();
        placesAreCountedFromTheLowest();
        theGreaterSumStandsLower();
        ofEqualSumsTheLowerIndexStandsLower();
        theLoadIsTheWeightOfAllAbove();
        aColumnStandsIfNoLoadIsGreaterThanTheStrength();
        theOverloadedOneIsTheLowestOfSeveral();
        theHighestColumn();
        safetyOfTheLeastAndTheGreatest();
        columns();
        nights();
        accounts();
        shows();
        Check.finish();
    }

    private static void nights() {
        whoFallsFartherThanTheNetIsInjured();
        distancesAreCountedFromTheOverloadedOne();
        theInjuredAreFitAfterThreeNights();
        aNightPassesAfterAnyShow();
        passNightsTakesOneToNinetyNine();
        theNetTakesZeroToFive();
    }

    private static void columns() {
        damagesAreTenForEachWhoFalls();
        theReserveCoversIfItHasEnough();
        blanksStandBetweenAcrobatsOnly();
    }

    private static void accounts() {
        accountsGrowWithTheAcrobats();
        anEntryMovesItsAmount();
        cashAndReserveMayBecomeZero();
        theJournalTakesSixtyEntries();
        closingEmptiesTheJournalAndKeepsTheBalances();
        cancelTakesTheSmallerOne();
        cancelOfSingleCoins();
        ranksOfEqualBalancesGoByNumber();
        meanOfThePositiveOnly();
        transfersOfFewAccounts();
        transfersOfSingleCoins();
    }

    private static void shows() {
        takingsThenWagesInTheOrderOfIndices();
        damagesComeFromTheReserveAndThenFromCash();
        aShowThatIsRefusedDoesNotCount();
    }

    private static void aNewCircusIsEmpty() {
        CircusLedger c = new CircusLedger();
        Check.same("1 night 0", 0, c.night());
        Check.same("1 net 0", 0, c.net());
        Check.same("1 without acrobats", 0, c.acrobatCount());
        Check.same("1 empty journal", 0, c.entryCount());
        Check.same("1 best height", 0, c.bestHeight());
        Check.same("1 best height by search", 0, c.bestHeightBySearch());
        Check.same("1 best column", 0, c.bestColumn());
        Check.same("1 transfers", 0, c.fewestTransfers());
        Check.same("1 transfers by search", 0, c.fewestTransfersBySearch());
        Check.same("1 five accounts", 5, c.accountCount());
        for (int account = 0; account < 5; account++) {
            Check.same("1 balance of " + account, 0, c.balance(account));
            Check.same("1 balance by journal of " + account, 0, c.balanceByJournal(account));
            Check.same("1 debits of " + account, 0, c.debits(account));
            Check.same("1 credits of " + account, 0, c.credits(account));
            Check.same("1 rank " + account, account, c.accountByBalance(account));
        }
        Check.same("1 closing nothing", 0, c.closeBooks());
        Check.same("1 nobody is injured", 0, c.passNights(1));
        Check.same("1 nobody to save", 0, c.save());
        Check.same("1 consistent", true, c.isConsistent());
    }

    /** The height of the column is divided, not that of each acrobat. */
    private static void divisionsRoundDown() {
        int[] heights = {100, 101, 109, 110, 199, 200};
        int[] takings = {10, 10, 10, 11, 19, 20};
        CircusLedger c = new CircusLedger();
        for (int height : heights) {
            c.addAcrobat(50, 400, height, 1);
        }
        for (int i = 0; i < heights.length; i++) {
            Check.same("5 takings of " + heights[i], takings[i], c.show(1 << i));
        }
        Check.same("5 takings of 101 and 109", 21, c.show(6));
        Check.same("5 takings of 101 and 199", 30, c.show(18));
        Check.same("5 takings of 109 and 199", 30, c.show(20));
        Check.same("5 takings of all 819", 81, c.show(63));
    }

    private static void acrobatsHaveIndicesInTheirOrder() {
        CircusLedger c = new CircusLedger();
        for (int i = 0; i < 6; i++) {
            Check.same("2 index " + i, i, c.addAcrobat(30 + i, 10 * i, 200 - i, 50 - i));
            Check.same("10 count " + i, i + 1, c.acrobatCount());
            Check.same("29 accounts " + i, 6 + i, c.accountCount());
        }
        for (int i = 0; i < 6; i++) {
            Check.same("11 weight of " + i, 30 + i, c.weight(i));
            Check.same("12 strength of " + i, 10 * i, c.strength(i));
            Check.same("13 height of " + i, 200 - i, c.height(i));
            Check.same("14 wage of " + i, 50 - i, c.wage(i));
            Check.same("15 injury of " + i, false, c.isInjured(i));
            Check.same("16 nights of " + i, 0, c.nightsUntilFit(i));
        }
    }

    private static void measuresAreTakenFromTheLeastToTheGreatest() {
        int[][] ranges = {{30, 120}, {0, 400}, {100, 200}, {1, 50}};
        for (int measure = 0; measure < 4; measure++) {
            for (int edge : new int[] {ranges[measure][0], ranges[measure][0] + 1, ranges[measure][1] - 1,
                    ranges[measure][1]}) {
                int[] m = {60, 200, 150, 25};
                m[measure] = edge;
                CircusLedger c = new CircusLedger();
                Check.same("2 measure " + measure + " of " + edge, 0, c.addAcrobat(m[0], m[1], m[2], m[3]));
                int[] kept = {c.weight(0), c.strength(0), c.height(0), c.wage(0)};
                Check.same("2 kept " + measure, edge, kept[measure]);
            }
        }
    }

    private static void setsAreSumsOfPowersOfTwo() {
        int[] heights = {100, 101, 103, 107, 115, 131};
        for (int count = 1; count <= 6; count++) {
            CircusLedger c = new CircusLedger();
            for (int i = 0; i < count; i++) {
                c.addAcrobat(30, 400, heights[i], 1);
            }
            for (int set = 1; set < 1 << count; set++) {
                int due = 0;
                for (int i = 0; i < count; i++) {
                    due += (set >> i & 1) * heights[i];
                }
                Check.same("20 set " + set + " of " + count, due, c.columnHeight(set));
            }
        }
    }

    private static void placesAreCountedFromTheLowest() {
        CircusLedger c = new CircusLedger();
        for (int i = 0; i < 6; i++) {
            c.addAcrobat(30, i, 100, 1);
        }
        for (int place = 0; place < 6; place++) {
            Check.same("18 place " + place, 5 - place, c.acrobatAt(63, place));
            Check.same("18 alone " + place, place, c.acrobatAt(1 << place, 0));
        }
    }

    private static void theGreaterSumStandsLower() {
        CircusLedger c = new CircusLedger();
        c.addAcrobat(50, 100, 100, 1);
        c.addAcrobat(51, 100, 100, 1);
        c.addAcrobat(50, 99, 100, 1);
        c.addAcrobat(30, 121, 100, 1);
        Check.same("18 heavier by 1", 1, c.acrobatAt(3, 0));
        Check.same("18 weaker by 1", 0, c.acrobatAt(5, 0));
        Check.same("18 neither the weight nor the strength alone", 3, c.acrobatAt(9, 0));
        Check.same("18 greater sum before lower index", 0, c.acrobatAt(11, 2));
        CircusLedger far = new CircusLedger();
        far.addAcrobat(30, 0, 100, 1);
        far.addAcrobat(120, 400, 100, 1);
        Check.same("18 the greatest sum is lowest", 1, far.acrobatAt(3, 0));
        Check.same("18 the least sum is highest", 0, far.acrobatAt(3, 1));
    }

    private static void ofEqualSumsTheLowerIndexStandsLower() {
        CircusLedger c = new CircusLedger();
        int[] weights = {70, 30, 120, 50, 100, 31};
        for (int weight : weights) {
            c.addAcrobat(weight, 150 - weight, 100, 1);
        }
        for (int set = 1; set < 64; set++) {
            int place = 0;
            for (int i = 0; i < 6; i++) {
                if ((set >> i & 1) == 1) {
                    Check.same("18 equal sums, set " + set, i, c.acrobatAt(set, place++));
                }
            }
        }
    }

    private static void theLoadIsTheWeightOfAllAbove() {
        CircusLedger c = Make.strongSix();
        for (int i = 0; i < 6; i++) {
            Check.same("19 alone", 0, c.loadOn(1 << i, i));
            Check.same("19 of six, " + i, 50 * (5 - i), c.loadOn(63, i));
        }
        CircusLedger most = new CircusLedger();
        for (int i = 0; i < 6; i++) {
            most.addAcrobat(120, 400, 200, 50);
        }
        Check.same("19 the greatest load", 600, most.loadOn(63, 0));
        Check.same("20 the greatest height", 1200, most.columnHeight(63));
        String due = "0(600/400)! 1(480/400) 2(360/400) 3(240/400) 4(120/400) 5(0/400)";
        Check.same("48 the greatest load", due.length(), most.renderColumn(63));
        Check.same("48 text of the greatest load", due, Make.output(most, due.length()));
    }

    private static void aColumnStandsIfNoLoadIsGreaterThanTheStrength() {
        for (int more = -1; more <= 1; more++) {
            CircusLedger c = new CircusLedger();
            c.addAcrobat(100, 60 + more, 100, 1);
            c.addAcrobat(60, 0, 100, 1);
            Check.same("17 strength and " + more, more >= 0, c.canStand(3));
            Check.same("22 strength and " + more, more >= 0 ? 0 : 10, c.damages(3));
            Check.same("24 strength and " + more, more >= 0 ? 200 : 100, c.bestHeight());
            Check.same("25 strength and " + more, more >= 0 ? 200 : 100, c.bestHeightBySearch());
            Check.same("26 strength and " + more, more >= 0 ? 3 : 1, c.bestColumn());
            Check.same("48 strength and " + more, more >= 0 ? 15 : 16, c.renderColumn(3));
            Check.same("5 strength and " + more, more >= 0 ? 20 : -10, c.show(3));
        }
        CircusLedger alone = Make.helpless(1);
        Check.same("17 alone without strength", true, alone.canStand(1));
        Check.same("5 alone without strength", 10, alone.show(1));
    }

    private static void theOverloadedOneIsTheLowestOfSeveral() {
        for (int strong = 0; strong <= 4; strong++) {
            CircusLedger c = new CircusLedger();
            for (int i = 0; i < 6; i++) {
                c.addAcrobat(30, i < strong ? 400 : 0, 100, 1);
            }
            Check.same("21 above " + strong + " strong ones", strong, c.overloaded(63));
            Check.same("22 all above fall", 10 * (5 - strong), c.damages(63));
            Check.same("5 all above fall", -10 * (5 - strong), c.show(63));
            Check.same("44 all above fall", 5 - strong, c.fallenTotal());
            for (int i = 0; i < 6; i++) {
                Check.same("15 all above are injured", i > strong, c.isInjured(i));
            }
        }
    }

    private static void theHighestColumn() {
        CircusLedger none = Make.helpless(6);
        Check.same("24 only single ones stand", 100, none.bestHeight());
        Check.same("25 only single ones stand", 100, none.bestHeightBySearch());
        Check.same("26 the smallest of six sets", 1, none.bestColumn());
        none.show(62);
        Check.same("26 the smallest of the fit", 1, none.bestColumn());
        CircusLedger c = Make.helpless(3);
        c.show(3);
        c.passNights(2);
        c.show(5);
        Check.same("26 with one injured", 1, c.bestColumn());
        CircusLedger later = new CircusLedger();
        later.addAcrobat(30, 0, 100, 1);
        later.addAcrobat(31, 0, 100, 1);
        Check.same("26 of equal heights the smaller set", 1, later.bestColumn());
        later.show(3);
        Check.same("24 the injured one does not count", 100, later.bestHeight());
        Check.same("25 the injured one does not count", 100, later.bestHeightBySearch());
        Check.same("26 the injured one does not count", 2, later.bestColumn());
        CircusLedger pairs = new CircusLedger();
        pairs.addAcrobat(30, 0, 110, 1);
        pairs.addAcrobat(30, 30, 110, 1);
        pairs.addAcrobat(30, 30, 120, 1);
        pairs.addAcrobat(30, 30, 120, 1);
        Check.same("24 of several pairs", 240, pairs.bestHeight());
        Check.same("26 of several pairs", 12, pairs.bestColumn());
        CircusLedger equal = new CircusLedger();
        equal.addAcrobat(30, 0, 100, 1);
        for (int i = 0; i < 4; i++) {
            equal.addAcrobat(30, 30, 100, 1);
        }
        Check.same("26 of equal pairs the smallest set", 3, equal.bestColumn());
    }

    private static void safetyOfTheLeastAndTheGreatest() {
        CircusLedger c = Make.helpless(2);
        Check.same("27 no strength", 0f, c.safety(3));
        Check.same("28 no strength", 0, c.safetyBits(3));
        CircusLedger exact = new CircusLedger();
        exact.addAcrobat(60, 30, 100, 1);
        exact.addAcrobat(30, 0, 100, 1);
        Check.same("27 just as strong as the load", 1f, exact.safety(3));
        Check.same("28 just as strong as the load", 0x3f800000, exact.safetyBits(3));
        for (int strength = 1; strength <= 400; strength++) {
            CircusLedger one = new CircusLedger();
            one.addAcrobat(120, strength, 100, 1);
            one.addAcrobat(30 + strength % 91, 0, 100, 1);
            float due = (float) strength / (float) one.weight(1);
            Check.same("27 strength " + strength, due, one.safety(3));
            Check.same("28 strength " + strength, Float.floatToIntBits(due), one.safetyBits(3));
        }
    }

    private static void damagesAreTenForEachWhoFalls() {
        for (int count = 2; count <= 6; count++) {
            CircusLedger c = Make.helpless(count);
            int all = (1 << count) - 1;
            Check.same("22 of " + count, 10 * (count - 1), c.damages(all));
            Check.same("5 of " + count, -10 * (count - 1), c.show(all));
            Check.same("44 of " + count, count - 1, c.fallenTotal());
        }
        Check.same("22 stands", 0, Make.strongSix().damages(63));
    }

    private static void theReserveCoversIfItHasEnough() {
        for (int more = -1; more <= 1; more++) {
            CircusLedger c = Make.funded(Make.helpless(6), 500, 50 + more);
            Check.same("23 reserve and " + more, more >= 0, c.isCovered(63));
        }
        Check.same("23 0 coins for a column that stands", true, Make.helpless(1).isCovered(1));
        Check.same("23 0 coins for a fall", false, Make.helpless(2).isCovered(3));
    }

    private static void blanksStandBetweenAcrobatsOnly() {
        CircusLedger c = Make.helpless(2);
        Check.same("48 one", 6, c.renderColumn(2));
        Check.same("48 text of one", "1(0/0)", Make.output(c, 6));
        Check.same("48 two", 15, c.renderColumn(3));
        Check.same("48 text of two", "0(30/0)! 1(0/0)", Make.output(c, 15));
        Check.refused("50 behind the end", IndexOutOfBoundsException.class, () -> c.outputAt(15));
    }

    /** In the column of six the lowest one is overloaded, so that the one at place p lands p beside the column. */
    private static void whoFallsFartherThanTheNetIsInjured() {
        for (int width = 0; width <= 5; width++) {
            CircusLedger c = Make.helpless(6);
            c.setNet(width);
            c.show(63);
            for (int acrobat = 0; acrobat < 6; acrobat++) {
                String what = " net " + width + ", distance " + acrobat;
                Check.same("15" + what, acrobat > width, c.isInjured(acrobat));
                Check.same("16" + what, acrobat > width ? 2 : 0, c.nightsUntilFit(acrobat));
            }
            Check.same("44 in the net or beside it", 5, c.fallenTotal());
            Check.same("7 injured with net " + width, Math.max(0, 5 - width), c.passNights(1));
        }
    }

    private static void distancesAreCountedFromTheOverloadedOne() {
        for (int width = 0; width <= 5; width++) {
            CircusLedger c = new CircusLedger();
            for (int i = 0; i < 6; i++) {
                c.addAcrobat(30, i < 3 ? 400 : 0, 100, 1);
            }
            c.setNet(width);
            c.show(63);
            for (int acrobat = 0; acrobat < 6; acrobat++) {
                Check.same("15 net " + width + ", place " + acrobat, acrobat - 3 > width, c.isInjured(acrobat));
            }
        }
    }

    private static void theInjuredAreFitAfterThreeNights() {
        CircusLedger c = Make.helpless(3);
        c.show(3);
        Check.same("16 the night of the show counts", 2, c.nightsUntilFit(1));
        Check.same("7 second night", 1, c.passNights(1));
        Check.same("16 second night", 1, c.nightsUntilFit(1));
        Check.same("15 second night", true, c.isInjured(1));
        Check.refused("5 second night", UnsupportedOperationException.class, () -> c.show(2));
        Check.same("7 third night", 0, c.passNights(1));
        Check.same("16 third night", 0, c.nightsUntilFit(1));
        Check.same("15 third night", false, c.isInjured(1));
        Check.same("5 third night", 10, c.show(2));
        c.show(3);
        Check.same("7 both nights at once", 0, c.passNights(2));
        c.show(3);
        Check.same("7 more nights than needed", 0, c.passNights(3));
        Check.same("16 more nights than needed", 0, c.nightsUntilFit(1));
        c.show(3);
        c.show(5);
        Check.same("16 of the first fall", 1, c.nightsUntilFit(1));
        Check.same("16 of the second fall", 2, c.nightsUntilFit(2));
        Check.same("7 one of two is fit", 1, c.passNights(1));
    }

    private static void aNightPassesAfterAnyShow() {
        CircusLedger c = Make.helpless(3);
        c.show(1);
        Check.same("41 after a column that stood", 1, c.night());
        c.show(3);
        Check.same("41 after a column that fell", 2, c.night());
        c.show(1);
        Check.same("16 a show's night heals others", 1, c.nightsUntilFit(1));
        c.show(5);
        Check.same("16 a fall's night heals others", 0, c.nightsUntilFit(1));
        Check.same("41 four shows", 4, c.night());
        Check.same("43 four shows", 4, c.showTotal());
        Check.same("44 two fell", 2, c.fallenTotal());
    }

    private static void passNightsTakesOneToNinetyNine() {
        CircusLedger c = Make.helpless(2);
        for (int nights : new int[] {1, 2, 98, 99}) {
            int before = c.night();
            c.passNights(nights);
            Check.same("7 nights " + nights, before + nights, c.night());
        }
        c.show(3);
        Check.same("7 the most nights", 0, c.passNights(99));
    }

    private static void theNetTakesZeroToFive() {
        CircusLedger c = new CircusLedger();
        int previous = 0;
        for (int width : new int[] {5, 0, 1, 4, 2, 3, 3}) {
            Check.same("6 previous width", previous, c.setNet(width));
            Check.same("42 width", width, c.net());
            previous = width;
        }
    }

    private static void accountsGrowWithTheAcrobats() {
        for (int count = 0; count <= 6; count++) {
            CircusLedger c = Make.helpless(count);
            Check.same("29 accounts of " + count, 5 + count, c.accountCount());
            int last = 4 + count;
            Check.same("30 the last one of " + count, 0, c.balance(last));
            Check.same("38 the last rank of " + count, last, c.accountByBalance(last));
            Check.same("3 post to the last one of " + count, 0, c.post(last, 2, 7));
            Check.same("30 posted to the last one of " + count, 7, c.balance(last));
            Check.same("31 posted to the last one of " + count, 7, c.balanceByJournal(last));
            Check.same("9 cancel the last one of " + count, 7, c.cancel(2, last));
        }
    }

    private static void anEntryMovesItsAmount() {
        for (int debit = 0; debit < 6; debit++) {
            for (int credit = 0; credit < 6; credit++) {
                if (debit != credit) {
                    CircusLedger c = Make.funded(Make.helpless(1), 9999, 9999);
                    int fromDebit = c.balance(debit);
                    int fromCredit = c.balance(credit);
                    c.post(debit, credit, 9999);
                    String what = " " + debit + ">" + credit;
                    Check.same("30 debit" + what, fromDebit + 9999, c.balance(debit));
                    Check.same("30 credit" + what, fromCredit - 9999, c.balance(credit));
                    Check.same("32 debit" + what, 9999, c.debits(debit));
                    Check.same("33 debit" + what, 0, c.credits(debit));
                    Check.same("33 credit" + what, 9999, c.credits(credit));
                    Check.same("32 credit" + what, 0, c.debits(credit));
                    Check.same("47" + what, true, c.isConsistent());
                }
            }
        }
    }

    private static void cashAndReserveMayBecomeZero() {
        CircusLedger c = Make.funded(Make.helpless(1), 10, 20);
        c.post(3, 0, 10);
        Check.same("3 cash is 0", 0, c.balance(0));
        c.post(3, 1, 20);
        Check.same("3 reserve is 0", 0, c.balance(1));
        c.post(0, 4, 1);
        Check.same("4 cash is 0", 1, c.payOut(0, 1));
        c.post(2, 5, 9999);
        Check.same("3 an acrobat's account may be negative", -9998, c.balance(5));
        Check.same("3 takings may be positive", 9969, c.balance(2));
        CircusLedger full = Make.funded(Make.helpless(2), 5, 5);
        Check.same("5 both are taken", -10, full.show(3));
        Check.same("5 cash is 0", 0, full.balance(0));
        Check.same("5 reserve is 0", 0, full.balance(1));
    }

    private static void theJournalTakesSixtyEntries() {
        CircusLedger posted = Make.livelyWithEntries(59);
        Check.same("3 sixtieth", 59, posted.post(0, 2, 1));
        CircusLedger paid = Make.livelyWithEntries(59);
        paid.payOut(0, 1);
        Check.same("4 sixtieth", 60, paid.entryCount());
        CircusLedger cancelled = Make.livelyWithEntries(59);
        cancelled.cancel(0, 2);
        Check.same("9 sixtieth", 60, cancelled.entryCount());
        CircusLedger shown = Make.livelyWithEntries(58);
        shown.show(8);
        Check.same("5 sixtieth", 60, shown.entryCount());
        Check.same("35 sixtieth", 4, shown.debitOf(59));
        Check.same("36 sixtieth", 8, shown.creditOf(59));
        Check.same("37 sixtieth", 4, shown.amountOf(59));
        Check.same("49 sixtieth", 5, shown.renderEntry(59));
        Check.same("8 sixty", 60, shown.closeBooks());
        Check.same("3 the first index is 0", 0, shown.post(0, 2, 1));
    }

    private static void closingEmptiesTheJournalAndKeepsTheBalances() {
        CircusLedger c = Make.lively();
        int[] due = {26, 5, -60, 20, 0, 0, -8, 8, 9};
        Check.same("8 three", 3, c.closeBooks());
        Check.same("8 none are left", 0, c.entryCount());
        for (int account = 0; account < 9; account++) {
            Check.same("30 closed " + account, due[account], c.balance(account));
            Check.same("31 closed " + account, due[account], c.balanceByJournal(account));
            Check.same("32 closed " + account, 0, c.debits(account));
            Check.same("33 closed " + account, 0, c.credits(account));
        }
        Check.same("8 empty already", 0, c.closeBooks());
    }

    private static void cancelTakesTheSmallerOne() {
        for (int more = -1; more <= 1; more++) {
            CircusLedger c = Make.helpless(2);
            c.post(5, 2, 10);
            c.post(3, 6, 10 + more);
            int due = Math.min(10, 10 + more);
            Check.same("9 amount " + more, due, more < 0 ? c.cancel(5, 6) : c.cancel(6, 5));
            Check.same("9 the positive one " + more, 10 - due, c.balance(5));
            Check.same("9 the negative one " + more, due - 10 - more, c.balance(6));
            Check.same("9 debit " + more, 6, c.debitOf(2));
            Check.same("9 credit " + more, 5, c.creditOf(2));
            Check.same("9 booked " + more, due, c.amountOf(2));
        }
    }

    /** The least balances that have a sign are 1 and -1, with either of them as the first account. */
    private static void cancelOfSingleCoins() {
        int[][] balances = {{1, -1}, {1, -2}, {2, -1}, {2, -2}};
        for (int[] pair : balances) {
            for (int first = 5; first <= 6; first++) {
                CircusLedger c = Make.helpless(2);
                c.post(5, 2, pair[0]);
                c.post(3, 6, -pair[1]);
                String what = pair[0] + " and " + pair[1] + ", first " + first;
                int due = Math.min(pair[0], -pair[1]);
                Check.same("9 amount of " + what, due, c.cancel(first, 11 - first));
                Check.same("9 entry of " + what, "6>5=" + due, Make.output(c, c.renderEntry(2)));
                Check.same("9 the positive one of " + what, pair[0] - due, c.balance(5));
                Check.same("9 the negative one of " + what, pair[1] + due, c.balance(6));
            }
        }
    }

    private static void transfersOfSingleCoins() {
        CircusLedger c = Make.helpless(3);
        c.post(5, 6, 1);
        c.post(5, 7, 1);
        transfers(c, 2);
        c.post(2, 5, 1);
        transfers(c, 2);
        c.post(5, 3, 1);
        c.post(5, 4, 1);
        transfers(c, 4);
    }

    private static void ranksOfEqualBalancesGoByNumber() {
        CircusLedger c = Make.helpless(6);
        int[] due = {10, 4, 0, 1, 3, 6, 7, 8, 9, 2, 5};
        c.post(10, 5, 3);
        c.post(4, 2, 2);
        for (int rank = 0; rank < 11; rank++) {
            Check.same("38 rank " + rank, due[rank], c.accountByBalance(rank));
        }
    }

    private static void meanOfThePositiveOnly() {
        CircusLedger c = Make.helpless(1);
        c.post(5, 2, 1);
        Check.same("45 one of 1", 1.0, c.meanPositive());
        Check.same("46 one of 1", 0x3ff0000000000000L, c.meanPositiveBits());
        c.post(4, 2, 1);
        c.post(3, 2, 2);
        Check.same("45 a third", 4.0 / 3.0, c.meanPositive());
        Check.same("46 a third", Double.doubleToLongBits(4.0 / 3.0), c.meanPositiveBits());
    }

    private static void transfersOfFewAccounts() {
        CircusLedger c = Make.helpless(6);
        c.post(0, 2, 10);
        transfers(c, 1);
        c.post(1, 2, 10);
        transfers(c, 2);
        c.post(2, 5, 20);
        transfers(c, 2);
        c.post(5, 0, 10);
        transfers(c, 1);
        c.cancel(1, 5);
        transfers(c, 0);
        for (int account = 0; account < 10; account++) {
            c.post(account, 10, 1);
            transfers(c, account + 1);
        }
    }

    private static void transfers(CircusLedger c, int due) {
        Check.same("39 transfers", due, c.fewestTransfers());
        Check.same("40 transfers", due, c.fewestTransfersBySearch());
    }

    private static void takingsThenWagesInTheOrderOfIndices() {
        CircusLedger c = new CircusLedger();
        for (int i = 0; i < 6; i++) {
            c.addAcrobat(30, 300 + 10 * i, 100, i == 0 ? 1 : 10 * i);
        }
        Check.same("5 takings", 60, c.show(63));
        Check.same("5 seven entries", 7, c.entryCount());
        Check.same("49 takings", "0>2=60", Make.output(c, c.renderEntry(0)));
        Check.same("49 least wage", "4>5=1", Make.output(c, c.renderEntry(1)));
        for (int i = 1; i < 6; i++) {
            Check.same("49 wage " + i, "4>" + (5 + i) + "=" + 10 * i, Make.output(c, c.renderEntry(1 + i)));
        }
    }

    /** Damages of 20: as much as the reserve has, as much of the rest as there is cash, no entry of 0. */
    private static void damagesComeFromTheReserveAndThenFromCash() {
        int[] coins = {0, 1, 9, 10, 11, 19, 20, 21};
        for (int reserve : coins) {
            for (int cash : coins) {
                CircusLedger c = Make.funded(Make.weakFour(), cash, reserve);
                int byReserve = Math.min(20, reserve);
                int byCash = Math.min(20 - byReserve, cash);
                String what = " with " + reserve + " and " + cash;
                Check.same("23 covered" + what, reserve >= 20, c.isCovered(15));
                Check.same("5 damages" + what, -20, c.show(15));
                Check.same("5 reserve" + what, reserve - byReserve, c.balance(1));
                Check.same("5 cash" + what, cash - byCash, c.balance(0));
                Check.same("5 booked" + what, byReserve + byCash, c.balance(3));
                String due = (byReserve > 0 ? "3>1=" + byReserve + " " : "")
                        + (byCash > 0 ? "3>0=" + byCash + " " : "");
                StringBuilder got = new StringBuilder();
                for (int i = 0; i < c.entryCount(); i++) {
                    got.append(Make.output(c, c.renderEntry(i))).append(' ');
                }
                Check.same("5 entries" + what, due, got.toString());
                Check.same("5 a fall" + what, 2, c.fallenTotal());
                Check.same("5 a show" + what, 1, c.showTotal());
                Check.same("5 a night" + what, 1, c.night());
            }
        }
    }

    private static void aShowThatIsRefusedDoesNotCount() {
        CircusLedger c = Make.helpless(2);
        c.show(3);
        Check.refused("5 refused", UnsupportedOperationException.class, () -> c.show(3));
        Check.refused("5 refused too", IllegalArgumentException.class, () -> c.show(4));
        Check.same("43 one show", 1, c.showTotal());
        Check.same("44 one fell", 1, c.fallenTotal());
        Check.same("41 one night", 1, c.night());
    }
}
