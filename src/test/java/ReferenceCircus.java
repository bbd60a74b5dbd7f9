import java.util.ArrayDeque;
import java.util.ArrayList;
import java.util.Comparator;
import java.util.Deque;
import java.util.List;
import java.util.NoSuchElementException;
import java.util.regex.Matcher;
import java.util.regex.Pattern;

/**
 * The document once more, written apart from the program and in other ways (lists, sorting, regular expressions,
 * the library's own bits), so that the program can be compared with it.
 */
public final class ReferenceCircus {
    private static final String NUMBER = "[0-9]{1,4}";
    private static final String COMMAND = ("acrobat N N N N|post N>N N|pay [0-9] N|"
            + "show (?=[0-9])0?1?2?3?4?5?6?7?8?9?|net [0-9]|night(?: N)?|close|cancel N N").replace("N", NUMBER);
    private static final Pattern SCRIPT = Pattern.compile("(?:" + COMMAND + ")(?:;(?:" + COMMAND + "))*");

    private record Acrobat(int weight, int strength, int height, int wage, int fitOn) {
        Acrobat injuredUntil(int night) {
            return new Acrobat(weight, strength, height, wage, night);
        }
    }

    private record Entry(int debit, int credit, int amount) {
    }

    /** Everything that undo and the snapshot cover; all balances are added up from all entries ever made. */
    private record State(List<Acrobat> acrobats, List<Entry> ever, int closedUpTo, int night, int net, int shows,
            int fallen) {
        State with(List<Acrobat> others) {
            return new State(others, ever, closedUpTo, night, net, shows, fallen);
        }

        State withEntry(int debit, int credit, int amount) {
            return new State(acrobats, plus(ever, new Entry(debit, credit, amount)), closedUpTo, night, net, shows,
                    fallen);
        }

        State withNight(int newNight) {
            return new State(acrobats, ever, closedUpTo, newNight, net, shows, fallen);
        }

        State withNet(int newNet) {
            return new State(acrobats, ever, closedUpTo, night, newNet, shows, fallen);
        }

        State withShow(int fell) {
            return new State(acrobats, ever, closedUpTo, night, net, shows + 1, fallen + fell);
        }

        State closed() {
            return new State(acrobats, ever, ever.size(), night, net, shows, fallen);
        }

        private static <T> List<T> plus(List<T> list, T more) {
            List<T> longer = new ArrayList<>(list);
            longer.add(more);
            return longer;
        }
    }

    private State state = new State(List.of(), List.of(), 0, 0, 0, 0, 0);
    private final Deque<State> undone = new ArrayDeque<>();
    private State snapshot;
    private String buffer = "";
    private String output = "";
    private Integer errorPosition;
    private Integer failedCommand;

    // Changes

    public int addAcrobat(int weight, int strength, int height, int wage) {
        boolean fits = weight >= 30 && weight <= 120 && strength >= 0 && strength <= 400 && height >= 100
                && height <= 200 && wage >= 1 && wage <= 50;
        argument(fits);
        stateAllows(acrobatCount() < 6);
        change();
        state = state.with(State.plus(state.acrobats, new Acrobat(weight, strength, height, wage, 0)));
        return acrobatCount() - 1;
    }

    public int post(int debit, int credit, int amount) {
        account(debit);
        account(credit);
        argument(debit != credit && amount >= 1 && amount <= 9999);
        stateAllows(entryCount() < 60);
        if (credit < 2 && balance(credit) - amount < 0) {
            throw new UnsupportedOperationException();
        }
        change();
        state = state.withEntry(debit, credit, amount);
        return entryCount() - 1;
    }

    public int payOut(int acrobat, int amount) {
        acrobat(acrobat);
        post(acrobat + 5, 0, amount);
        return balance(acrobat + 5);
    }

    public int show(int set) {
        List<Integer> column = column(set);
        for (int member : column) {
            if (isInjured(member)) {
                throw new UnsupportedOperationException();
            }
        }
        State after = canStand(set) ? afterSuccess(set, column) : afterFall(column);
        stateAllows(after.ever.size() - after.closedUpTo <= 60);
        int answer = canStand(set) ? columnHeight(set) / 10 : -damages(set);
        change();
        state = after.withNight(after.night + 1);
        return answer;
    }

    private State afterSuccess(int set, List<Integer> column) {
        State after = state.withEntry(0, 2, columnHeight(set) / 10);
        for (int acrobat : column.stream().sorted().toList()) {
            after = after.withEntry(4, 5 + acrobat, wage(acrobat));
        }
        return after.withShow(0);
    }

    private State afterFall(List<Integer> column) {
        int first = overloadedPlace(column);
        int open = 10 * (column.size() - first - 1);
        State after = state.withShow(column.size() - first - 1);
        for (int account = 1; account >= 0; account--) {
            int part = Math.min(open, balance(account));
            after = part == 0 ? after : after.withEntry(3, account, part);
            open -= part;
        }
        List<Acrobat> acrobats = new ArrayList<>(state.acrobats);
        for (int place = first + 1; place < column.size(); place++) {
            if (place - first > state.net) {
                int acrobat = column.get(place);
                acrobats.set(acrobat, acrobats.get(acrobat).injuredUntil(state.night + 3));
            }
        }
        return after.with(acrobats);
    }

    public int setNet(int width) {
        argument(width >= 0 && width <= 5);
        change();
        int previous = state.net;
        state = state.withNet(width);
        return previous;
    }

    public int passNights(int nights) {
        argument(nights >= 1 && nights <= 99);
        change();
        state = state.withNight(state.night + nights);
        int injured = 0;
        for (int acrobat = 0; acrobat < acrobatCount(); acrobat++) {
            injured += isInjured(acrobat) ? 1 : 0;
        }
        return injured;
    }

    public int closeBooks() {
        change();
        int entries = entryCount();
        state = state.closed();
        return entries;
    }

    public int cancel(int first, int second) {
        account(first);
        account(second);
        int debit = balance(first) < balance(second) ? first : second;
        int credit = debit == first ? second : first;
        stateAllows(balance(debit) < 0 && balance(credit) > 0 && entryCount() < 60);
        change();
        int amount = Math.min(Math.abs(balance(debit)), balance(credit));
        state = state.withEntry(debit, credit, amount);
        return amount;
    }

    // Acrobats

    public int acrobatCount() {
        return state.acrobats.size();
    }

    public int weight(int acrobat) {
        return acrobat(acrobat).weight;
    }

    public int strength(int acrobat) {
        return acrobat(acrobat).strength;
    }

    public int height(int acrobat) {
        return acrobat(acrobat).height;
    }

    public int wage(int acrobat) {
        return acrobat(acrobat).wage;
    }

    public boolean isInjured(int acrobat) {
        return acrobat(acrobat).fitOn > state.night;
    }

    public int nightsUntilFit(int acrobat) {
        return isInjured(acrobat) ? acrobat(acrobat).fitOn - state.night : 0;
    }

    // Columns

    public boolean canStand(int set) {
        return overloadedPlace(column(set)) < 0;
    }

    public int acrobatAt(int set, int place) {
        List<Integer> column = column(set);
        exists(place >= 0 && place < column.size());
        return column.get(place);
    }

    public int loadOn(int set, int acrobat) {
        List<Integer> column = column(set);
        exists(column.contains(acrobat));
        return load(column, column.indexOf(acrobat));
    }

    public int columnHeight(int set) {
        return column(set).stream().mapToInt(this::height).sum();
    }

    public int overloaded(int set) {
        List<Integer> column = column(set);
        exists(overloadedPlace(column) >= 0);
        return column.get(overloadedPlace(column));
    }

    public int damages(int set) {
        List<Integer> column = column(set);
        return canStand(set) ? 0 : 10 * (column.size() - overloadedPlace(column) - 1);
    }

    public boolean isCovered(int set) {
        return damages(set) <= balance(1);
    }

    public int bestHeight() {
        return bestColumn() == 0 ? 0 : columnHeight(bestColumn());
    }

    /** Puts the acrobats above one another in all orders and looks at the loads at the end only. */
    public int bestHeightBySearch() {
        return bestOf(new ArrayList<>());
    }

    private int bestOf(List<Integer> order) {
        int best = order.isEmpty() || overloadedPlace(order) >= 0 ? 0 : order.stream().mapToInt(this::height).sum();
        for (int acrobat = 0; acrobat < acrobatCount(); acrobat++) {
            if (!order.contains(acrobat) && !isInjured(acrobat)) {
                order.add(acrobat);
                best = Math.max(best, bestOf(order));
                order.remove(order.size() - 1);
            }
        }
        return best;
    }

    public int bestColumn() {
        int best = 0;
        for (int set = (1 << acrobatCount()) - 1; set > 0; set--) {
            boolean fits = column(set).stream().noneMatch(this::isInjured) && canStand(set);
            if (fits && (best == 0 || columnHeight(set) >= columnHeight(best))) {
                best = set;
            }
        }
        return best;
    }

    public float safety(int set) {
        List<Integer> column = column(set);
        if (column.size() == 1) {
            throw new ArithmeticException();
        }
        float least = Float.MAX_VALUE;
        for (int place = 0; place < column.size() - 1; place++) {
            least = Math.min(least, (float) strength(column.get(place)) / load(column, place));
        }
        return least;
    }

    public int safetyBits(int set) {
        return Float.floatToIntBits(safety(set));
    }

    // Accounts

    public int accountCount() {
        return 5 + acrobatCount();
    }

    public int balance(int account) {
        account(account);
        return debitsOf(account, state.ever) - creditsOf(account, state.ever);
    }

    public int balanceByJournal(int account) {
        return balance(account);
    }

    public int debits(int account) {
        account(account);
        return debitsOf(account, journal());
    }

    public int credits(int account) {
        account(account);
        return creditsOf(account, journal());
    }

    public int entryCount() {
        return journal().size();
    }

    public int debitOf(int index) {
        return entry(index).debit;
    }

    public int creditOf(int index) {
        return entry(index).credit;
    }

    public int amountOf(int index) {
        return entry(index).amount;
    }

    public int accountByBalance(int rank) {
        exists(rank >= 0 && rank < accountCount());
        List<Integer> accounts = new ArrayList<>();
        for (int account = 0; account < accountCount(); account++) {
            accounts.add(account);
        }
        accounts.sort(Comparator.comparing((Integer account) -> -balance(account)));
        return accounts.get(rank);
    }

    /** Cuts the accounts into groups that add up to 0, the group of the first account in all ways. */
    public int fewestTransfers() {
        int[] open = new int[accountCount()];
        int count = 0;
        for (int account = 0; account < accountCount(); account++) {
            int balance = balance(account);
            if (balance != 0) {
                open[count++] = balance;
            }
        }
        return count - mostGroups(open, (1 << count) - 1);
    }

    private static int mostGroups(int[] open, int set) {
        int first = set & -set;
        int most = 0;
        for (int rest = set ^ first; set != 0; rest = (rest - 1) & (set ^ first)) {
            int sum = 0;
            for (int i = 0; i < open.length; i++) {
                sum += ((set ^ rest) >> i & 1) * open[i];
            }
            if (sum == 0) {
                most = Math.max(most, 1 + mostGroups(open, rest));
            }
            if (rest == 0) {
                break;
            }
        }
        return most;
    }

    public int fewestTransfersBySearch() {
        return fewestTransfers();
    }

    // Totals and checks

    public int night() {
        return state.night;
    }

    public int net() {
        return state.net;
    }

    public int showTotal() {
        return state.shows;
    }

    public int fallenTotal() {
        return state.fallen;
    }

    public double meanPositive() {
        List<Integer> positive = new ArrayList<>();
        for (int account = 0; account < accountCount(); account++) {
            if (balance(account) > 0) {
                positive.add(balance(account));
            }
        }
        if (positive.isEmpty()) {
            throw new ArithmeticException();
        }
        return (double) positive.stream().mapToInt(Integer::intValue).sum() / positive.size();
    }

    public long meanPositiveBits() {
        return Double.doubleToLongBits(meanPositive());
    }

    public boolean isConsistent() {
        return true;
    }

    // Output and scripts

    public int renderColumn(int set) {
        List<Integer> column = column(set);
        List<String> parts = new ArrayList<>();
        for (int place = 0; place < column.size(); place++) {
            parts.add(column.get(place) + "(" + load(column, place) + "/" + strength(column.get(place)) + ")"
                    + (place == overloadedPlace(column) ? "!" : ""));
        }
        output = String.join(" ", parts);
        return output.length();
    }

    public int renderEntry(int index) {
        output = entry(index).debit + ">" + entry(index).credit + "=" + entry(index).amount;
        return output.length();
    }

    public char outputAt(int index) {
        index(index >= 0 && index < output.length());
        return output.charAt(index);
    }

    public int type(char character) {
        argument(character >= ' ' && character <= '~');
        stateAllows(buffer.length() < 60);
        buffer += character;
        return buffer.length();
    }

    public int runScript() {
        String script = buffer;
        buffer = "";
        if (!SCRIPT.matcher(script).matches()) {
            errorPosition = longestPrefix(script);
            throw new IllegalArgumentException();
        }
        State before = state;
        List<State> undoneBefore = new ArrayList<>(undone);
        String[] commands = script.split(";");
        for (int i = 0; i < commands.length; i++) {
            try {
                execute(commands[i]);
            } catch (RuntimeException e) {
                state = before;
                undone.clear();
                undone.addAll(undoneBefore);
                failedCommand = i;
                throw new IllegalStateException();
            }
        }
        undone.clear();
        undone.addAll(undoneBefore);
        State after = state;
        state = before;
        change();
        state = after;
        return commands.length;
    }

    /** A text can be continued to a script if the matcher wanted to read beyond its end. */
    private static int longestPrefix(String script) {
        for (int length = script.length(); length > 0; length--) {
            Matcher matcher = SCRIPT.matcher(script.substring(0, length));
            if (matcher.matches() || matcher.hitEnd()) {
                return length;
            }
        }
        return 0;
    }

    private void execute(String command) {
        String[] words = command.split("[ >]");
        int[] n = new int[5];
        for (int i = 1; i < words.length; i++) {
            n[i] = words[0].equals("show") ? 0 : Integer.parseInt(words[i]);
        }
        switch (words[0]) {
            case "acrobat" -> addAcrobat(n[1], n[2], n[3], n[4]);
            case "post" -> post(n[1], n[2], n[3]);
            case "pay" -> payOut(n[1], n[2]);
            case "show" -> show(words[1].chars().map(digit -> 1 << (digit - '0')).sum());
            case "net" -> setNet(n[1]);
            case "night" -> passNights(words.length == 1 ? 1 : n[1]);
            case "close" -> closeBooks();
            default -> cancel(n[1], n[2]);
        }
    }

    public int errorPosition() {
        exists(errorPosition != null);
        return errorPosition;
    }

    public int failedCommand() {
        exists(failedCommand != null);
        return failedCommand;
    }

    public int undo() {
        exists(!undone.isEmpty());
        state = undone.removeLast();
        return undone.size();
    }

    public int save() {
        snapshot = state;
        return acrobatCount();
    }

    public int restore() {
        stateAllows(snapshot != null);
        state = snapshot;
        undone.clear();
        return acrobatCount();
    }

    // What the methods above share

    private void change() {
        undone.addLast(state);
        if (undone.size() > 8) {
            undone.removeFirst();
        }
    }

    private List<Integer> column(int set) {
        argument(set > 0 && set <= (1 << acrobatCount()) - 1);
        List<Integer> column = new ArrayList<>();
        for (int acrobat = 0; acrobat < acrobatCount(); acrobat++) {
            if ((set & 1 << acrobat) != 0) {
                column.add(acrobat);
            }
        }
        column.sort(Comparator.comparing((Integer acrobat) -> -weight(acrobat) - strength(acrobat)));
        return column;
    }

    private int load(List<Integer> column, int place) {
        return column.subList(place + 1, column.size()).stream().mapToInt(this::weight).sum();
    }

    private int overloadedPlace(List<Integer> column) {
        for (int place = 0; place < column.size(); place++) {
            if (load(column, place) > strength(column.get(place))) {
                return place;
            }
        }
        return -1;
    }

    private List<Entry> journal() {
        return state.ever.subList(state.closedUpTo, state.ever.size());
    }

    private static int debitsOf(int account, List<Entry> entries) {
        return entries.stream().filter(entry -> entry.debit == account).mapToInt(Entry::amount).sum();
    }

    private static int creditsOf(int account, List<Entry> entries) {
        return entries.stream().filter(entry -> entry.credit == account).mapToInt(Entry::amount).sum();
    }

    private Entry entry(int index) {
        index(index >= 0 && index < entryCount());
        return journal().get(index);
    }

    private Acrobat acrobat(int acrobat) {
        index(acrobat >= 0 && acrobat < acrobatCount());
        return state.acrobats.get(acrobat);
    }

    private void account(int account) {
        index(account >= 0 && account < accountCount());
    }

    private static void index(boolean fits) {
        if (!fits) {
            throw new IndexOutOfBoundsException();
        }
    }

    private static void argument(boolean fits) {
        if (!fits) {
            throw new IllegalArgumentException();
        }
    }

    private static void stateAllows(boolean fits) {
        if (!fits) {
            throw new IllegalStateException();
        }
    }

    private static void exists(boolean found) {
        if (!found) {
            throw new NoSuchElementException();
        }
    }
}
