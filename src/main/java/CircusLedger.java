import java.util.Arrays;
import java.util.NoSuchElementException;

/** A circus whose acrobats stand in columns and whose accounts are kept by double entry. */
public final class CircusLedger {
    private static final int NONE = -1;

    private static final int MAX_ACROBATS = 6;
    private static final int MAX_NET = 5;
    private static final int MAX_NIGHTS = 99;
    private static final int NIGHTS_TO_HEAL = 3;
    private static final int DAMAGES_PER_FALL = 10;

    private static final int CASH = 0;
    private static final int RESERVE = 1;
    private static final int TAKINGS = 2;
    private static final int DAMAGES = 3;
    private static final int WAGES = 4;
    private static final int FIRST_ACROBAT_ACCOUNT = 5;
    private static final int MAX_ACCOUNTS = FIRST_ACROBAT_ACCOUNT + MAX_ACROBATS;
    private static final int MAX_ENTRIES = 60;
    private static final int MAX_AMOUNT = 9999;

    private static final int MAX_SCRIPT = 60;
    private static final int MAX_CHANGES = 8;

    private final Circus now = new Circus();
    private final History history = new History();
    private final Circus snapshot = new Circus();
    private boolean hasSnapshot;
    private final Settling settling = new Settling();
    private final Script script = new Script();
    private int formError = NONE;
    private int commandError = NONE;
    private final StringBuilder output = new StringBuilder();

    public CircusLedger() {
    }

    // Changes

    public int addAcrobat(int weight, int strength, int height, int wage)
            throws IllegalArgumentException, IllegalStateException {
        throwFor(now.refusalToHire(weight, strength, height, wage));
        history.remember(now);
        return now.hire(weight, strength, height, wage);
    }

    public int post(int debit, int credit, int amount)
            throws IndexOutOfBoundsException, IllegalArgumentException, IllegalStateException,
            UnsupportedOperationException {
        throwFor(now.refusalToBook(debit, credit, amount));
        history.remember(now);
        return now.books.book(debit, credit, amount);
    }

    public int payOut(int acrobat, int amount)
            throws IndexOutOfBoundsException, IllegalArgumentException, IllegalStateException,
            UnsupportedOperationException {
        throwFor(now.refusalToPay(acrobat, amount));
        history.remember(now);
        return now.pay(acrobat, amount);
    }

    public int show(int set)
            throws IllegalArgumentException, UnsupportedOperationException, IllegalStateException {
        throwFor(now.refusalToShow(set));
        history.remember(now);
        return now.giveShow(set);
    }

    public int setNet(int width) throws IllegalArgumentException {
        throwFor(now.refusalToSpan(width));
        history.remember(now);
        return now.spanNet(width);
    }

    public int passNights(int nights) throws IllegalArgumentException {
        throwFor(now.refusalToWait(nights));
        history.remember(now);
        return now.waitNights(nights);
    }

    public int closeBooks() {
        history.remember(now);
        return now.books.close();
    }

    public int cancel(int first, int second) throws IndexOutOfBoundsException, IllegalStateException {
        throwFor(now.refusalToOffset(first, second));
        history.remember(now);
        return now.books.offset(first, second);
    }

    // Acrobats

    public int acrobatCount() {
        return now.troupe.count;
    }

    public int weight(int acrobat) throws IndexOutOfBoundsException {
        requireAcrobat(acrobat);
        return now.troupe.weights[acrobat];
    }

    public int strength(int acrobat) throws IndexOutOfBoundsException {
        requireAcrobat(acrobat);
        return now.troupe.strengths[acrobat];
    }

    public int height(int acrobat) throws IndexOutOfBoundsException {
        requireAcrobat(acrobat);
        return now.troupe.heights[acrobat];
    }

    public int wage(int acrobat) throws IndexOutOfBoundsException {
        requireAcrobat(acrobat);
        return now.troupe.wages[acrobat];
    }

    public boolean isInjured(int acrobat) throws IndexOutOfBoundsException {
        requireAcrobat(acrobat);
        return now.troupe.nightsToHeal[acrobat] > 0;
    }

    public int nightsUntilFit(int acrobat) throws IndexOutOfBoundsException {
        requireAcrobat(acrobat);
        return now.troupe.nightsToHeal[acrobat];
    }

    // Columns

    public boolean canStand(int set) throws IllegalArgumentException {
        requireSet(set);
        return now.troupe.overloadedOf(set) == NONE;
    }

    public int acrobatAt(int set, int place) throws IllegalArgumentException, NoSuchElementException {
        requireSet(set);
        return requireFound(now.troupe.memberAt(set, place));
    }

    public int loadOn(int set, int acrobat) throws IllegalArgumentException, NoSuchElementException {
        requireSet(set);
        if (!now.troupe.isMember(set, acrobat)) {
            throw new NoSuchElementException("the acrobat is not in the set");
        }
        return now.troupe.loadOf(set, acrobat);
    }

    public int columnHeight(int set) throws IllegalArgumentException {
        requireSet(set);
        return now.troupe.heightOf(set);
    }

    public int overloaded(int set) throws IllegalArgumentException, NoSuchElementException {
        requireSet(set);
        return requireFound(now.troupe.overloadedOf(set));
    }

    public int damages(int set) throws IllegalArgumentException {
        requireSet(set);
        return now.troupe.damagesOf(set);
    }

    public boolean isCovered(int set) throws IllegalArgumentException {
        requireSet(set);
        return now.books.balances[RESERVE] >= now.troupe.damagesOf(set);
    }

    public int bestHeight() {
        return now.troupe.heightOf(now.troupe.highestSet());
    }

    public int bestHeightBySearch() {
        return now.troupe.highestBySearch();
    }

    public int bestColumn() {
        return now.troupe.highestSet();
    }

    public float safety(int set) throws IllegalArgumentException, ArithmeticException {
        requireSet(set);
        requireSeveral(set);
        return now.troupe.safetyOf(set);
    }

    public int safetyBits(int set) throws IllegalArgumentException, ArithmeticException {
        requireSet(set);
        requireSeveral(set);
        return (int) Bits.of(now.troupe.safetyOf(set), Bits.FLOAT_BIAS, Bits.FLOAT_FRACTION);
    }

    // Accounts

    public int accountCount() {
        return now.books.accounts;
    }

    public int balance(int account) throws IndexOutOfBoundsException {
        requireAccount(account);
        return now.books.balances[account];
    }

    public int balanceByJournal(int account) throws IndexOutOfBoundsException {
        requireAccount(account);
        return now.books.balanceFromJournal(account);
    }

    public int debits(int account) throws IndexOutOfBoundsException {
        requireAccount(account);
        return now.books.debitSum(account);
    }

    public int credits(int account) throws IndexOutOfBoundsException {
        requireAccount(account);
        return now.books.creditSum(account);
    }

    public int entryCount() {
        return now.books.entries;
    }

    public int debitOf(int index) throws IndexOutOfBoundsException {
        requireEntry(index);
        return now.books.debited[index];
    }

    public int creditOf(int index) throws IndexOutOfBoundsException {
        requireEntry(index);
        return now.books.credited[index];
    }

    public int amountOf(int index) throws IndexOutOfBoundsException {
        requireEntry(index);
        return now.books.amounts[index];
    }

    public int accountByBalance(int rank) throws NoSuchElementException {
        return requireFound(now.books.accountAtRank(rank));
    }

    public int fewestTransfers() {
        return settling.fewestBySets(now.books);
    }

    public int fewestTransfersBySearch() {
        return settling.fewestBySearch(now.books);
    }

    // Totals and checks

    public int night() {
        return now.nights;
    }

    public int net() {
        return now.netWidth;
    }

    public int showTotal() {
        return now.shows;
    }

    public int fallenTotal() {
        return now.fallen;
    }

    public double meanPositive() throws ArithmeticException {
        requirePositiveBalance();
        return now.books.meanOfPositive();
    }

    public long meanPositiveBits() throws ArithmeticException {
        requirePositiveBalance();
        return Bits.of(now.books.meanOfPositive(), Bits.DOUBLE_BIAS, Bits.DOUBLE_FRACTION);
    }

    public boolean isConsistent() {
        return now.troupe.heightOf(now.troupe.highestSet()) == now.troupe.highestBySearch()
                && settling.fewestBySets(now.books) == settling.fewestBySearch(now.books)
                && now.books.agreeWithJournal()
                && now.books.sumOfBalances() == 0;
    }

    // Output and scripts

    public int renderColumn(int set) throws IllegalArgumentException {
        requireSet(set);
        output.setLength(0);
        int size = Integer.bitCount(set);
        for (int place = 0; place < size; place++) {
            if (place > 0) {
                output.append(' ');
            }
            appendMember(set, now.troupe.memberAt(set, place));
        }
        return output.length();
    }

    public int renderEntry(int index) throws IndexOutOfBoundsException {
        requireEntry(index);
        output.setLength(0);
        output.append(now.books.debited[index]);
        output.append('>');
        output.append(now.books.credited[index]);
        output.append('=');
        output.append(now.books.amounts[index]);
        return output.length();
    }

    public char outputAt(int index) throws IndexOutOfBoundsException {
        if (index < 0 || index >= output.length()) {
            throw new IndexOutOfBoundsException("the output text has no such index");
        }
        return output.charAt(index);
    }

    public int type(char character) throws IllegalArgumentException, IllegalStateException {
        if (character < 32 || character > 126) {
            throw new IllegalArgumentException("the character is not printable");
        }
        if (script.length() >= MAX_SCRIPT) {
            throw new IllegalStateException("the script buffer is full");
        }
        return script.append(character);
    }

    public int runScript() throws IllegalArgumentException, IllegalStateException {
        int error = script.read();
        script.clear();
        if (error != NONE) {
            formError = error;
            throw new IllegalArgumentException("the script does not have the required form");
        }
        history.note(now);
        for (int index = 0; index < script.count; index++) {
            if (script.refusalOf(index, now) != Refusal.NONE) {
                history.takeBack(now);
                commandError = index;
                throw new IllegalStateException("a command of the script failed");
            }
            script.execute(index, now);
        }
        history.keep();
        return script.count;
    }

    public int errorPosition() throws NoSuchElementException {
        return requireFound(formError);
    }

    public int failedCommand() throws NoSuchElementException {
        return requireFound(commandError);
    }

    public int undo() throws NoSuchElementException {
        if (history.count == 0) {
            throw new NoSuchElementException("there is nothing to undo");
        }
        return history.goBack(now);
    }

    public int save() {
        snapshot.copyFrom(now);
        hasSnapshot = true;
        return now.troupe.count;
    }

    public int restore() throws IllegalStateException {
        if (!hasSnapshot) {
            throw new IllegalStateException("there is no snapshot");
        }
        now.copyFrom(snapshot);
        history.forget();
        return now.troupe.count;
    }

    private void appendMember(int set, int acrobat) {
        if (acrobat == NONE) {
            return;
        }
        output.append(acrobat);
        output.append('(');
        output.append(now.troupe.loadOf(set, acrobat));
        output.append('/');
        output.append(now.troupe.strengths[acrobat]);
        output.append(')');
        if (acrobat == now.troupe.overloadedOf(set)) {
            output.append('!');
        }
    }

    private void requireAcrobat(int acrobat) {
        if (!now.troupe.has(acrobat)) {
            throw new IndexOutOfBoundsException("there is no such acrobat");
        }
    }

    private void requireSet(int set) {
        if (!now.troupe.isSet(set)) {
            throw new IllegalArgumentException("the set is empty or has others than the acrobats that exist");
        }
    }

    private void requireAccount(int account) {
        if (!now.books.has(account)) {
            throw new IndexOutOfBoundsException("there is no such account");
        }
    }

    private void requireEntry(int index) {
        if (index < 0 || index >= now.books.entries) {
            throw new IndexOutOfBoundsException("there is no such entry in the journal");
        }
    }

    private void requirePositiveBalance() {
        if (now.books.positiveCount() == 0) {
            throw new ArithmeticException("no balance is positive");
        }
    }

    private static void requireSeveral(int set) {
        if (Integer.bitCount(set) < 2) {
            throw new ArithmeticException("the column has only one acrobat");
        }
    }

    private static int requireFound(int answer) {
        if (answer == NONE) {
            throw new NoSuchElementException("there is no such thing");
        }
        return answer;
    }

    private static void throwFor(Refusal refusal) {
        if (refusal == Refusal.INDEX) {
            throw new IndexOutOfBoundsException("there is no such acrobat or account");
        }
        if (refusal == Refusal.ARGUMENT) {
            throw new IllegalArgumentException("an argument is not allowed");
        }
        if (refusal == Refusal.STATE) {
            throw new IllegalStateException("the state does not allow this change");
        }
        if (refusal == Refusal.UNSUPPORTED) {
            throw new UnsupportedOperationException("the circus cannot do this now");
        }
    }

    /** Why a change cannot be made: it is asked before a change, so that scripts need no exceptions. */
    private enum Refusal {
        NONE, INDEX, ARGUMENT, STATE, UNSUPPORTED
    }

    /** All that undo and the snapshot cover. */
    private static final class Circus {
        final Troupe troupe = new Troupe();
        final Books books = new Books();
        int nights;
        int netWidth;
        int shows;
        int fallen;

        void copyFrom(Circus other) {
            troupe.copyFrom(other.troupe);
            books.copyFrom(other.books);
            nights = other.nights;
            netWidth = other.netWidth;
            shows = other.shows;
            fallen = other.fallen;
        }

        Refusal refusalToHire(int weight, int strength, int height, int wage) {
            boolean fits = isBetween(weight, 30, 120) && isBetween(strength, 0, 400)
                    && isBetween(height, 100, 200) && isBetween(wage, 1, 50);
            if (!fits) {
                return Refusal.ARGUMENT;
            }
            return troupe.count >= MAX_ACROBATS ? Refusal.STATE : Refusal.NONE;
        }

        int hire(int weight, int strength, int height, int wage) {
            books.openAccount();
            return troupe.add(weight, strength, height, wage);
        }

        Refusal refusalToBook(int debit, int credit, int amount) {
            if (!books.has(debit) || !books.has(credit)) {
                return Refusal.INDEX;
            }
            if (debit == credit || !isBetween(amount, 1, MAX_AMOUNT)) {
                return Refusal.ARGUMENT;
            }
            if (!books.hasRoomFor(1)) {
                return Refusal.STATE;
            }
            return books.overdraws(credit, amount) ? Refusal.UNSUPPORTED : Refusal.NONE;
        }

        Refusal refusalToPay(int acrobat, int amount) {
            if (!troupe.has(acrobat)) {
                return Refusal.INDEX;
            }
            return refusalToBook(FIRST_ACROBAT_ACCOUNT + acrobat, CASH, amount);
        }

        int pay(int acrobat, int amount) {
            int account = FIRST_ACROBAT_ACCOUNT + acrobat;
            books.book(account, CASH, amount);
            return books.balances[account];
        }

        Refusal refusalToShow(int set) {
            if (!troupe.isSet(set)) {
                return Refusal.ARGUMENT;
            }
            if ((set & troupe.fitSet()) != set) {
                return Refusal.UNSUPPORTED;
            }
            int entries = entriesOfShow(set, troupe.damagesOf(set));
            return books.hasRoomFor(entries) ? Refusal.NONE : Refusal.STATE;
        }

        int giveShow(int set) {
            shows++;
            int overloaded = troupe.overloadedOf(set);
            int answer = overloaded == NONE ? bookSuccess(set) : -bookFall(set, overloaded);
            waitNights(1);
            return answer;
        }

        Refusal refusalToSpan(int width) {
            return isBetween(width, 0, MAX_NET) ? Refusal.NONE : Refusal.ARGUMENT;
        }

        int spanNet(int width) {
            int previous = netWidth;
            netWidth = width;
            return previous;
        }

        Refusal refusalToWait(int count) {
            return isBetween(count, 1, MAX_NIGHTS) ? Refusal.NONE : Refusal.ARGUMENT;
        }

        int waitNights(int count) {
            nights += count;
            return troupe.heal(count);
        }

        Refusal refusalToOffset(int first, int second) {
            if (!books.has(first) || !books.has(second)) {
                return Refusal.INDEX;
            }
            return books.areOpposed(first, second) && books.hasRoomFor(1) ? Refusal.NONE : Refusal.STATE;
        }

        private int entriesOfShow(int set, int damages) {
            if (damages == 0) {
                return 1 + Integer.bitCount(set);
            }
            return (fromReserve(damages) > 0 ? 1 : 0) + (fromCash(damages) > 0 ? 1 : 0);
        }

        private int bookSuccess(int set) {
            int takings = troupe.heightOf(set) / 10;
            books.book(CASH, TAKINGS, takings);
            for (int acrobat = 0; acrobat < troupe.count; acrobat++) {
                if (troupe.isMember(set, acrobat)) {
                    books.book(WAGES, FIRST_ACROBAT_ACCOUNT + acrobat, troupe.wages[acrobat]);
                }
            }
            return takings;
        }

        private int bookFall(int set, int overloaded) {
            int fell = troupe.countAbove(set, overloaded);
            int damages = DAMAGES_PER_FALL * fell;
            int byReserve = fromReserve(damages);
            int byCash = fromCash(damages);
            if (byReserve > 0) {
                books.book(DAMAGES, RESERVE, byReserve);
            }
            if (byCash > 0) {
                books.book(DAMAGES, CASH, byCash);
            }
            fallen += fell;
            troupe.injureBeside(set, overloaded, netWidth);
            return damages;
        }

        private int fromReserve(int damages) {
            return Math.min(damages, books.balances[RESERVE]);
        }

        private int fromCash(int damages) {
            return Math.min(damages - fromReserve(damages), books.balances[CASH]);
        }

        private static boolean isBetween(int value, int least, int greatest) {
            return value >= least && value <= greatest;
        }
    }

    /** The acrobats, and the columns that sets of them make. */
    private static final class Troupe {
        int count;
        final int[] weights = new int[MAX_ACROBATS];
        final int[] strengths = new int[MAX_ACROBATS];
        final int[] heights = new int[MAX_ACROBATS];
        final int[] wages = new int[MAX_ACROBATS];
        final int[] nightsToHeal = new int[MAX_ACROBATS];

        void copyFrom(Troupe other) {
            count = other.count;
            System.arraycopy(other.weights, 0, weights, 0, MAX_ACROBATS);
            System.arraycopy(other.strengths, 0, strengths, 0, MAX_ACROBATS);
            System.arraycopy(other.heights, 0, heights, 0, MAX_ACROBATS);
            System.arraycopy(other.wages, 0, wages, 0, MAX_ACROBATS);
            System.arraycopy(other.nightsToHeal, 0, nightsToHeal, 0, MAX_ACROBATS);
        }

        int add(int weight, int strength, int height, int wage) {
            int acrobat = count;
            weights[acrobat] = weight;
            strengths[acrobat] = strength;
            heights[acrobat] = height;
            wages[acrobat] = wage;
            count++;
            return acrobat;
        }

        boolean has(int acrobat) {
            return acrobat >= 0 && acrobat < count;
        }

        boolean isSet(int set) {
            return set > 0 && set < (1 << count);
        }

        boolean isMember(int set, int acrobat) {
            return acrobat >= 0 && acrobat < count && (set >> acrobat & 1) == 1;
        }

        int fitSet() {
            int set = 0;
            for (int acrobat = 0; acrobat < count; acrobat++) {
                if (nightsToHeal[acrobat] == 0) {
                    set |= 1 << acrobat;
                }
            }
            return set;
        }

        /** Returns how many acrobats are still injured afterwards. */
        int heal(int nights) {
            int injured = 0;
            for (int acrobat = 0; acrobat < count; acrobat++) {
                nightsToHeal[acrobat] = Math.max(0, nightsToHeal[acrobat] - nights);
                if (nightsToHeal[acrobat] > 0) {
                    injured++;
                }
            }
            return injured;
        }

        void injureBeside(int set, int overloaded, int netWidth) {
            int edge = placeOf(set, overloaded) + netWidth;
            for (int acrobat = 0; acrobat < count; acrobat++) {
                if (isMember(set, acrobat) && placeOf(set, acrobat) > edge) {
                    nightsToHeal[acrobat] = NIGHTS_TO_HEAL;
                }
            }
        }

        private boolean isBelow(int one, int other) {
            int sum = weights[one] + strengths[one];
            int otherSum = weights[other] + strengths[other];
            return sum == otherSum ? one < other : sum > otherSum;
        }

        private int placeOf(int set, int acrobat) {
            int place = 0;
            for (int other = 0; other < count; other++) {
                if (isMember(set, other) && isBelow(other, acrobat)) {
                    place++;
                }
            }
            return place;
        }

        /** Returns the acrobat at the place, or NONE. */
        int memberAt(int set, int place) {
            for (int acrobat = 0; acrobat < count; acrobat++) {
                if (isMember(set, acrobat) && placeOf(set, acrobat) == place) {
                    return acrobat;
                }
            }
            return NONE;
        }

        int loadOf(int set, int acrobat) {
            int load = 0;
            for (int other = 0; other < count; other++) {
                if (isMember(set, other) && isBelow(acrobat, other)) {
                    load += weights[other];
                }
            }
            return load;
        }

        int heightOf(int set) {
            int height = 0;
            for (int acrobat = 0; acrobat < count; acrobat++) {
                if (isMember(set, acrobat)) {
                    height += heights[acrobat];
                }
            }
            return height;
        }

        /** Returns the overloaded acrobat, or NONE if the column stands. */
        int overloadedOf(int set) {
            int lowest = NONE;
            for (int acrobat = 0; acrobat < count; acrobat++) {
                if (isMember(set, acrobat) && loadOf(set, acrobat) > strengths[acrobat]
                        && (lowest == NONE || isBelow(acrobat, lowest))) {
                    lowest = acrobat;
                }
            }
            return lowest;
        }

        int countAbove(int set, int acrobat) {
            return Integer.bitCount(set) - 1 - placeOf(set, acrobat);
        }

        int damagesOf(int set) {
            int overloaded = overloadedOf(set);
            return overloaded == NONE ? 0 : DAMAGES_PER_FALL * countAbove(set, overloaded);
        }

        float safetyOf(int set) {
            float least = 0;
            boolean found = false;
            for (int acrobat = 0; acrobat < count; acrobat++) {
                int load = isMember(set, acrobat) ? loadOf(set, acrobat) : 0;
                if (load != 0) {
                    float quotient = (float) strengths[acrobat] / (float) load;
                    least = found && least <= quotient ? least : quotient;
                    found = true;
                }
            }
            return least;
        }

        /** Returns the set of the highest column that stands, of acrobats who are fit, or 0. */
        int highestSet() {
            int fit = fitSet();
            int best = 0;
            for (int set = 1; set < (1 << count); set++) {
                if ((set & fit) == set && heightOf(set) > heightOf(best) && overloadedOf(set) == NONE) {
                    best = set;
                }
            }
            return best;
        }

        int highestBySearch() {
            return highestBelow(this, fitSet(), 0, 0);
        }

        /** Returns the greatest height that acrobats of a set can add below a weight that they carry. */
        private static int highestBelow(Troupe troupe, int set, int carried, int depth) {
            if (depth >= MAX_ACROBATS) {
                return 0;
            }
            int best = 0;
            for (int next = 0; next < troupe.count; next++) {
                if (troupe.isMember(set, next) && troupe.strengths[next] >= carried) {
                    int below = highestBelow(troupe, set & ~(1 << next), carried + troupe.weights[next], depth + 1);
                    best = Math.max(best, troupe.heights[next] + below);
                }
            }
            return best;
        }
    }

    /** The accounts and the journal. */
    private static final class Books {
        int accounts = FIRST_ACROBAT_ACCOUNT;
        final int[] balances = new int[MAX_ACCOUNTS];
        final int[] balancesAtClosing = new int[MAX_ACCOUNTS];
        int entries;
        final int[] debited = new int[MAX_ENTRIES];
        final int[] credited = new int[MAX_ENTRIES];
        final int[] amounts = new int[MAX_ENTRIES];

        void copyFrom(Books other) {
            accounts = other.accounts;
            System.arraycopy(other.balances, 0, balances, 0, MAX_ACCOUNTS);
            System.arraycopy(other.balancesAtClosing, 0, balancesAtClosing, 0, MAX_ACCOUNTS);
            entries = other.entries;
            System.arraycopy(other.debited, 0, debited, 0, MAX_ENTRIES);
            System.arraycopy(other.credited, 0, credited, 0, MAX_ENTRIES);
            System.arraycopy(other.amounts, 0, amounts, 0, MAX_ENTRIES);
        }

        /** The rows hold 0 for accounts that are still to come, since nothing is booked on them. */
        void openAccount() {
            accounts++;
        }

        boolean has(int account) {
            return account >= 0 && account < accounts;
        }

        boolean hasRoomFor(int more) {
            return entries + more <= MAX_ENTRIES;
        }

        boolean overdraws(int credit, int amount) {
            return (credit == CASH || credit == RESERVE) && balances[credit] < amount;
        }

        int book(int debit, int credit, int amount) {
            int index = entries;
            debited[index] = debit;
            credited[index] = credit;
            amounts[index] = amount;
            entries++;
            balances[debit] += amount;
            balances[credit] -= amount;
            return index;
        }

        int close() {
            int closed = entries;
            entries = 0;
            System.arraycopy(balances, 0, balancesAtClosing, 0, MAX_ACCOUNTS);
            return closed;
        }

        boolean areOpposed(int first, int second) {
            return Math.min(balances[first], balances[second]) < 0
                    && Math.max(balances[first], balances[second]) > 0;
        }

        /** Books as much between two opposed accounts as neither of them changes its sign with. */
        int offset(int first, int second) {
            int debit = balances[first] < 0 ? first : second;
            int credit = balances[first] < 0 ? second : first;
            int amount = Math.min(-balances[debit], balances[credit]);
            book(debit, credit, amount);
            return amount;
        }

        int debitSum(int account) {
            return sumOfAmounts(debited, account);
        }

        int creditSum(int account) {
            return sumOfAmounts(credited, account);
        }

        private int sumOfAmounts(int[] side, int account) {
            int sum = 0;
            for (int index = 0; index < entries; index++) {
                if (side[index] == account) {
                    sum += amounts[index];
                }
            }
            return sum;
        }

        int balanceFromJournal(int account) {
            return balancesAtClosing[account] + debitSum(account) - creditSum(account);
        }

        boolean agreeWithJournal() {
            for (int account = 0; account < accounts; account++) {
                if (balances[account] != balanceFromJournal(account)) {
                    return false;
                }
            }
            return true;
        }

        int sumOfBalances() {
            int sum = 0;
            for (int account = 0; account < accounts; account++) {
                sum += balances[account];
            }
            return sum;
        }

        /** Returns the account at the rank, or NONE. */
        int accountAtRank(int rank) {
            for (int account = 0; account < accounts; account++) {
                if (rankOf(account) == rank) {
                    return account;
                }
            }
            return NONE;
        }

        private int rankOf(int account) {
            int rank = 0;
            for (int other = 0; other < accounts; other++) {
                boolean isAhead = balances[other] == balances[account]
                        ? other < account : balances[other] > balances[account];
                if (isAhead) {
                    rank++;
                }
            }
            return rank;
        }

        int positiveCount() {
            int count = 0;
            for (int account = 0; account < accounts; account++) {
                if (balances[account] > 0) {
                    count++;
                }
            }
            return count;
        }

        double meanOfPositive() {
            int count = positiveCount();
            int sum = 0;
            for (int account = 0; account < accounts; account++) {
                sum += Math.max(0, balances[account]);
            }
            return count == 0 ? 0 : (double) sum / (double) count;
        }
    }

    /** Finds the fewest transfers; its rows are made once because each way needs one number a set. */
    private static final class Settling {
        private static final int SETS = 1 << MAX_ACCOUNTS;
        private static final int UNKNOWN = -1;

        private int count;
        private final int[] open = new int[MAX_ACCOUNTS];
        private final int[] sums = new int[SETS];
        private final int[] groups = new int[SETS];
        private final int[] transfers = new int[SETS];

        /**
         * Accounts that a transfer connects belong to one group, and the balances of a group add up to 0.
         * A group of n accounts takes n - 1 transfers, so the most groups need the fewest.
         */
        int fewestBySets(Books books) {
            takeOpenBalances(books);
            int sets = 1 << count;
            for (int set = 1; set < sets; set++) {
                groups[set] = mostGroupsWithoutOne(set) + (sums[set] == 0 ? 1 : 0);
            }
            return count - groups[sets - 1];
        }

        int fewestBySearch(Books books) {
            takeOpenBalances(books);
            Arrays.fill(transfers, UNKNOWN);
            return fewestFor(this, (1 << count) - 1, 0);
        }

        /** Accounts whose balance is 0 need no transfer and help no other one. */
        private void takeOpenBalances(Books books) {
            count = 0;
            for (int account = 0; account < books.accounts; account++) {
                if (books.balances[account] != 0) {
                    open[count] = books.balances[account];
                    count++;
                }
            }
            for (int i = 0; i < count; i++) {
                for (int set = 0; set < (1 << i); set++) {
                    sums[set | (1 << i)] = sums[set] + open[i];
                }
            }
        }

        private int mostGroupsWithoutOne(int set) {
            int most = 0;
            for (int i = 0; i < count; i++) {
                if ((set >> i & 1) == 1) {
                    most = Math.max(most, groups[set & ~(1 << i)]);
                }
            }
            return most;
        }

        /**
         * Returns the fewest transfers that settle the untouched accounts and the one that has taken over the
         * balances settled so far. As all balances add up to 0, the untouched ones tell what that one has.
         */
        private static int fewestFor(Settling all, int untouched, int depth) {
            if (untouched == 0 || depth > MAX_ACCOUNTS) {
                return 0;
            }
            if (all.transfers[untouched] == UNKNOWN) {
                int passedOn = -all.sums[untouched];
                all.transfers[untouched] = passedOn == 0
                        ? fewestFor(all, untouched & (untouched - 1), depth + 1)
                        : fewestWithEachOther(all, untouched, passedOn, depth);
            }
            return all.transfers[untouched];
        }

        private static int fewestWithEachOther(Settling all, int untouched, int passedOn, int depth) {
            int fewest = MAX_ACCOUNTS;
            for (int i = 0; i < all.count; i++) {
                boolean isOpposed = (all.open[i] > 0) != (passedOn > 0);
                if ((untouched >> i & 1) == 1 && isOpposed) {
                    fewest = Math.min(fewest, 1 + fewestFor(all, untouched & ~(1 << i), depth + 1));
                }
            }
            return fewest;
        }
    }

    /**
     * The commands with their forms, in which # stands for a number, ? for a digit, * for digits that rise,
     * and ~ for a blank and a number that may both be left out and then is 1.
     */
    private enum Command {
        ACROBAT("acrobat # # # #"),
        POST("post #># #"),
        PAY("pay ? #"),
        SHOW("show *"),
        NET("net ?"),
        NIGHT("night~"),
        CLOSE("close"),
        CANCEL("cancel # #");

        final String form;

        Command(String form) {
            this.form = form;
        }
    }

    /** The script buffer, and the commands that were read from it last. */
    private static final class Script {
        private static final Command[] ALL = Command.values();
        private static final int MAX_ARGUMENTS = 4;
        private static final int MAX_DIGITS = 4;
        /** The shortest commands have 5 characters. */
        private static final int MAX_COMMANDS = MAX_SCRIPT / 5;

        private final StringBuilder text = new StringBuilder();
        private int position;
        int count;
        private final Command[] commands = new Command[MAX_COMMANDS];
        private final int[] arguments = new int[MAX_COMMANDS * MAX_ARGUMENTS];
        private int argumentCount;

        int length() {
            return text.length();
        }

        int append(char character) {
            text.append(character);
            return text.length();
        }

        void clear() {
            text.setLength(0);
        }

        Refusal refusalOf(int index, Circus circus) {
            switch (commands[index]) {
                case ACROBAT:
                    return circus.refusalToHire(argument(index, 0), argument(index, 1),
                            argument(index, 2), argument(index, 3));
                case POST:
                    return circus.refusalToBook(argument(index, 0), argument(index, 1), argument(index, 2));
                case PAY:
                    return circus.refusalToPay(argument(index, 0), argument(index, 1));
                case SHOW:
                    return circus.refusalToShow(argument(index, 0));
                case NET:
                    return circus.refusalToSpan(argument(index, 0));
                case NIGHT:
                    return circus.refusalToWait(argument(index, 0));
                case CANCEL:
                    return circus.refusalToOffset(argument(index, 0), argument(index, 1));
                default:
                    return Refusal.NONE;
            }
        }

        void execute(int index, Circus circus) {
            switch (commands[index]) {
                case ACROBAT:
                    circus.hire(argument(index, 0), argument(index, 1), argument(index, 2), argument(index, 3));
                    break;
                case POST:
                    circus.books.book(argument(index, 0), argument(index, 1), argument(index, 2));
                    break;
                case PAY:
                    circus.pay(argument(index, 0), argument(index, 1));
                    break;
                case SHOW:
                    circus.giveShow(argument(index, 0));
                    break;
                case NET:
                    circus.spanNet(argument(index, 0));
                    break;
                case NIGHT:
                    circus.waitNights(argument(index, 0));
                    break;
                case CLOSE:
                    circus.books.close();
                    break;
                case CANCEL:
                    circus.books.offset(argument(index, 0), argument(index, 1));
                    break;
                default:
                    break;
            }
        }

        private int argument(int index, int number) {
            return arguments[index * MAX_ARGUMENTS + number];
        }

        /** Returns the error position, or NONE if the script has the required form. */
        int read() {
            position = 0;
            count = 0;
            boolean fits = readCommand();
            for (int i = 1; i < MAX_COMMANDS && fits && position < text.length(); i++) {
                fits = readSign(';') && readCommand();
            }
            return fits && position == text.length() ? NONE : position;
        }

        /**
         * Tries each form from the same start. Where all fail, the one that came farthest tells the first
         * character that none of them can go on with.
         */
        private boolean readCommand() {
            int start = position;
            int farthest = start;
            for (Command command : ALL) {
                position = start;
                argumentCount = 0;
                if (readForm(command.form)) {
                    commands[count] = command;
                    count++;
                    return true;
                }
                farthest = Math.max(farthest, position);
            }
            position = farthest;
            return false;
        }

        private boolean readForm(String form) {
            for (int i = 0; i < form.length(); i++) {
                if (!readPart(form.charAt(i))) {
                    return false;
                }
            }
            return true;
        }

        private boolean readPart(char part) {
            switch (part) {
                case '#':
                    return readNumber();
                case '?':
                    return readDigit();
                case '*':
                    return readRisingDigits();
                case '~':
                    if (readSign(' ')) {
                        return readNumber();
                    }
                    addArgument(1);
                    return true;
                default:
                    return readSign(part);
            }
        }

        private boolean readSign(char sign) {
            boolean fits = position < text.length() && text.charAt(position) == sign;
            if (fits) {
                position++;
            }
            return fits;
        }

        /** Returns the digit at the position, or NONE. */
        private int digitHere() {
            char sign = position < text.length() ? text.charAt(position) : ' ';
            return sign >= '0' && sign <= '9' ? sign - '0' : NONE;
        }

        private boolean readNumber() {
            int start = position;
            int value = 0;
            for (int i = 0; i < MAX_DIGITS && digitHere() != NONE; i++) {
                value = value * 10 + digitHere();
                position++;
            }
            addArgument(value);
            return position > start;
        }

        private boolean readDigit() {
            int digit = digitHere();
            if (digit == NONE) {
                return false;
            }
            addArgument(digit);
            position++;
            return true;
        }

        private boolean readRisingDigits() {
            int set = 0;
            int last = NONE;
            for (int i = 0; i < 10 && digitHere() > last; i++) {
                last = digitHere();
                set |= 1 << last;
                position++;
            }
            addArgument(set);
            return set != 0;
        }

        private void addArgument(int value) {
            if (argumentCount < MAX_ARGUMENTS) {
                arguments[count * MAX_ARGUMENTS + argumentCount] = value;
                argumentCount++;
            }
        }
    }

    /** The states before the latest changes; one place more than can be undone is there for notes. */
    private static final class History {
        private static final int PLACES = MAX_CHANGES + 1;

        private final Circus[] earlier = new Circus[PLACES];
        private int next;
        int count;

        History() {
            for (int i = 0; i < PLACES; i++) {
                earlier[i] = new Circus();
            }
        }

        void remember(Circus circus) {
            note(circus);
            keep();
        }

        void note(Circus circus) {
            earlier[next].copyFrom(circus);
        }

        void keep() {
            next = (next + 1) % PLACES;
            count = Math.min(count + 1, MAX_CHANGES);
        }

        void takeBack(Circus circus) {
            circus.copyFrom(earlier[next]);
        }

        /** Returns how many changes can still be undone. */
        int goBack(Circus circus) {
            next = (next + PLACES - 1) % PLACES;
            count--;
            takeBack(circus);
            return count;
        }

        void forget() {
            count = 0;
        }
    }

    /** Takes numbers apart by arithmetic, because the library's own ways are outside LANGUAGE.md. */
    private static final class Bits {
        static final int FLOAT_BIAS = 127;
        static final int FLOAT_FRACTION = 23;
        static final int DOUBLE_BIAS = 1023;
        static final int DOUBLE_FRACTION = 52;

        /** Returns the bits of a number that is 0 or positive and normal in its format. */
        static long of(double number, int bias, int fractionBits) {
            if (number == 0) {
                return 0;
            }
            long exponent = bias;
            double scaled = number;
            for (int i = 0; i < bias && scaled >= 2; i++) {
                scaled = scaled / 2;
                exponent++;
            }
            for (int i = 0; i < bias && scaled < 1; i++) {
                scaled = scaled * 2;
                exponent--;
            }
            long fraction = (long) ((scaled - 1) * (double) (1L << fractionBits));
            return (exponent << fractionBits) + fraction;
        }
    }
}
