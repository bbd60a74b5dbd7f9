import java.lang.reflect.InvocationTargetException;
import java.lang.reflect.Method;
import java.util.ArrayList;
import java.util.Comparator;
import java.util.List;
import java.util.Random;

/** Runs of up to 512 chosen calls, on the program and on the reference, which must answer alike. */
public final class RandomRunsTest {
    private static final int RUNS = 1500;
    private static final int CALLS = 512;
    private static final int CALLS_OF_A_SCRIPT = 66;
    private static final int[] WILD = {Integer.MIN_VALUE, Integer.MIN_VALUE + 1, -65536, -64, -33, -32, -31, -6, -2, -1,
        0, 1, 6, 7, 11, 12, 31, 32, 33, 60, 61, 63, 64, 65, 127, 128, 256, 512, 2048, 65535, 65536,
        Integer.MAX_VALUE - 1, Integer.MAX_VALUE};
    private static final String[] CHANGES = {"addAcrobat", "post", "payOut", "show", "setNet", "passNights",
        "closeBooks", "cancel", "undo", "save", "restore", "renderColumn", "renderEntry"};
    private static final String[] COMMANDS = {"acrobat ", "post ", "pay ", "show ", "net ", "night", "close",
        "cancel "};

    private static final Method[] METHODS = CircusLedger.class.getDeclaredMethods();

    private final Random random;
    private final CircusLedger program = new CircusLedger();
    private final ReferenceCircus reference = new ReferenceCircus();
    private final List<String> told = new ArrayList<>();
    private final int funds;
    private final int strengths;
    private int calls;

    private RandomRunsTest(long seed) {
        random = new Random(seed);
        funds = new int[] {10, 100, 9999}[random.nextInt(3)];
        strengths = new int[] {40, 150, 400}[random.nextInt(3)];
    }

    public static void main(String[] args) {
        List<Method> open = new ArrayList<>();
        for (Method method : METHODS) {
            if (java.lang.reflect.Modifier.isPublic(method.getModifiers())) {
                open.add(method);
            }
        }
        // The order of getDeclaredMethods is free, and the runs shall be the same each time.
        open.sort(Comparator.comparing(Method::getName));
        for (int run = 1; run <= RUNS; run++) {
            new RandomRunsTest(run).play(run, open);
        }
        Check.finish();
    }

    private void play(int run, List<Method> open) {
        boolean alike = true;
        while (calls < CALLS && alike) {
            int kind = random.nextInt(100);
            if (kind < 8 && calls + CALLS_OF_A_SCRIPT <= CALLS) {
                alike = typeScript();
            } else if (kind < 55) {
                alike = call(byName(open, CHANGES[random.nextInt(CHANGES.length)]));
            } else {
                alike = call(open.get(random.nextInt(open.size())));
            }
        }
        Check.same("run " + run + ": " + String.join("\n  ", told), true, alike);
    }

    private static Method byName(List<Method> open, String name) {
        for (Method method : open) {
            if (method.getName().equals(name)) {
                return method;
            }
        }
        throw new IllegalStateException("no method " + name);
    }

    private boolean call(Method method) {
        Object[] arguments = new Object[method.getParameterCount()];
        for (int i = 0; i < arguments.length; i++) {
            int argument = random.nextInt(25) == 0 ? WILD[random.nextInt(WILD.length)] : argument(method.getName(), i);
            arguments[i] = method.getParameterTypes()[i] == char.class ? (Object) (char) argument : (Object) argument;
        }
        return compare(method.getName(), method.getParameterTypes(), arguments);
    }

    private boolean compare(String name, Class<?>[] types, Object... arguments) {
        calls++;
        String due = Check.outcome(() -> invoke(reference, name, types, arguments));
        String got = Check.outcome(() -> invoke(program, name, types, arguments));
        told.add(name + java.util.Arrays.toString(arguments) + ": due is " + due + ", got " + got);
        return due.equals(got);
    }

    private static Object invoke(Object object, String name, Class<?>[] types, Object[] arguments) {
        try {
            return object.getClass().getMethod(name, types).invoke(object, arguments);
        } catch (InvocationTargetException e) {
            if (e.getCause() instanceof RuntimeException) {
                throw (RuntimeException) e.getCause();
            }
            throw new AssertionError(e.getCause());
        } catch (ReflectiveOperationException e) {
            throw new AssertionError(e);
        }
    }

    /** What there is, is asked of the reference: on the program it would be a call more than are counted. */
    private int argument(String method, int index) {
        int acrobats = reference.acrobatCount();
        switch (method) {
            case "addAcrobat":
                return measure(index);
            case "post":
                return index == 2 ? amount() : random.nextInt(30) == 0 ? 5 + acrobats : random.nextInt(5 + acrobats);
            case "payOut":
                return index == 1 ? amount() : acrobatOrMore();
            case "cancel":
            case "balance":
            case "balanceByJournal":
            case "debits":
            case "credits":
            case "accountByBalance":
                return random.nextInt(20) == 0 ? 5 + acrobats : random.nextInt(5 + acrobats);
            case "setNet":
                return random.nextInt(7);
            case "passNights":
                return random.nextInt(10) == 0 ? random.nextInt(102) : 1 + random.nextInt(3);
            case "debitOf":
            case "creditOf":
            case "amountOf":
            case "renderEntry":
                return random.nextInt(reference.entryCount() + 1);
            case "outputAt":
                return random.nextInt(40);
            case "type":
                return random.nextInt(130);
            default:
                return setOrAcrobat(method, index);
        }
    }

    private int setOrAcrobat(String method, int index) {
        boolean isAcrobat = index == 1 || List.of("weight", "strength", "height", "wage", "isInjured", "nightsUntilFit")
                .contains(method);
        return isAcrobat ? acrobatOrMore() : random.nextInt((1 << reference.acrobatCount()) + 1);
    }

    private int acrobatOrMore() {
        return random.nextInt(reference.acrobatCount() + 1);
    }

    private int amount() {
        return random.nextInt(15) == 0 ? random.nextInt(10001) : 1 + random.nextInt(funds);
    }

    private int measure(int index) {
        int[] least = {30, 0, 100, 1};
        int[] greatest = {120, strengths, 200, 50};
        int kind = random.nextInt(40);
        if (kind < 4) {
            return kind < 2 ? least[index] - kind : greatest[index] + kind - 2;
        }
        int range = kind < 20 ? greatest[index] - least[index] : Math.min(3, greatest[index] - least[index]);
        return least[index] + random.nextInt(range + 1);
    }

    private boolean typeScript() {
        String script = script();
        for (int i = 0; i < script.length(); i++) {
            if (!compare("type", new Class<?>[] {char.class}, script.charAt(i))) {
                return false;
            }
        }
        return compare("runScript", new Class<?>[0]) && compare("errorPosition", new Class<?>[0])
                && compare("failedCommand", new Class<?>[0]) && compare("entryCount", new Class<?>[0])
                && compare("acrobatCount", new Class<?>[0]) && compare("balance", new Class<?>[] {int.class}, 0);
    }

    private String script() {
        StringBuilder script = new StringBuilder(command());
        for (int more = random.nextInt(5); more > 0; more--) {
            script.append(';').append(command());
        }
        if (random.nextInt(3) == 0) {
            spoil(script);
        }
        return script.length() > 60 ? script.substring(0, 60) : script.toString();
    }

    private void spoil(StringBuilder script) {
        int position = random.nextInt(script.length());
        String signs = "0123456789 >;acostnx";
        char sign = signs.charAt(random.nextInt(signs.length()));
        switch (random.nextInt(4)) {
            case 0:
                script.setLength(position);
                break;
            case 1:
                script.setCharAt(position, sign);
                break;
            case 2:
                script.insert(position, sign);
                break;
            default:
                script.deleteCharAt(position);
                break;
        }
    }

    private String command() {
        String word = COMMANDS[random.nextInt(COMMANDS.length)];
        switch (word) {
            case "acrobat ":
                return word + measure(0) + " " + measure(1) + " " + measure(2) + " " + measure(3);
            case "post ":
                return word + argument("post", 0) + ">" + argument("post", 1) + " " + amount();
            case "pay ":
                return word + acrobatOrMore() + " " + amount();
            case "show ":
                return word + digits();
            case "net ":
                return word + random.nextInt(7);
            case "night":
                return random.nextBoolean() ? word : word + " " + random.nextInt(4);
            case "cancel ":
                return word + argument("cancel", 0) + " " + argument("cancel", 1);
            default:
                return word;
        }
    }

    private String digits() {
        StringBuilder digits = new StringBuilder();
        for (int acrobat = 0; acrobat < 10; acrobat++) {
            if (acrobat < reference.acrobatCount() ? random.nextBoolean() : random.nextInt(40) == 0) {
                digits.append(acrobat);
            }
        }
        return digits.length() == 0 ? "0" : digits.toString();
    }
}
