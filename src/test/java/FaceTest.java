import java.lang.reflect.Constructor;
import java.lang.reflect.Field;
import java.lang.reflect.Member;
import java.lang.reflect.Method;
import java.lang.reflect.Modifier;
import java.util.ArrayList;
import java.util.Arrays;
import java.util.List;
import java.util.Set;
import java.util.TreeSet;

/** The public face: what the document lists and nothing more, and the same exceptions declared. */
public final class FaceTest {
    private static final String[] FACE = {
        "int addAcrobat(int,int,int,int) throws IllegalArgumentException, IllegalStateException",
        "int post(int,int,int) throws IndexOutOfBoundsException, IllegalArgumentException, IllegalStateException, "
            + "UnsupportedOperationException",
        "int payOut(int,int) throws IndexOutOfBoundsException, IllegalArgumentException, IllegalStateException, "
            + "UnsupportedOperationException",
        "int show(int) throws IllegalArgumentException, UnsupportedOperationException, IllegalStateException",
        "int setNet(int) throws IllegalArgumentException",
        "int passNights(int) throws IllegalArgumentException",
        "int closeBooks()",
        "int cancel(int,int) throws IndexOutOfBoundsException, IllegalStateException",
        "int acrobatCount()",
        "int weight(int) throws IndexOutOfBoundsException",
        "int strength(int) throws IndexOutOfBoundsException",
        "int height(int) throws IndexOutOfBoundsException",
        "int wage(int) throws IndexOutOfBoundsException",
        "boolean isInjured(int) throws IndexOutOfBoundsException",
        "int nightsUntilFit(int) throws IndexOutOfBoundsException",
        "boolean canStand(int) throws IllegalArgumentException",
        "int acrobatAt(int,int) throws IllegalArgumentException, NoSuchElementException",
        "int loadOn(int,int) throws IllegalArgumentException, NoSuchElementException",
        "int columnHeight(int) throws IllegalArgumentException",
        "int overloaded(int) throws IllegalArgumentException, NoSuchElementException",
        "int damages(int) throws IllegalArgumentException",
        "boolean isCovered(int) throws IllegalArgumentException",
        "int bestHeight()",
        "int bestHeightBySearch()",
        "int bestColumn()",
        "float safety(int) throws IllegalArgumentException, ArithmeticException",
        "int safetyBits(int) throws IllegalArgumentException, ArithmeticException",
        "int accountCount()",
        "int balance(int) throws IndexOutOfBoundsException",
        "int balanceByJournal(int) throws IndexOutOfBoundsException",
        "int debits(int) throws IndexOutOfBoundsException",
        "int credits(int) throws IndexOutOfBoundsException",
        "int entryCount()",
        "int debitOf(int) throws IndexOutOfBoundsException",
        "int creditOf(int) throws IndexOutOfBoundsException",
        "int amountOf(int) throws IndexOutOfBoundsException",
        "int accountByBalance(int) throws NoSuchElementException",
        "int fewestTransfers()",
        "int fewestTransfersBySearch()",
        "int night()",
        "int net()",
        "int showTotal()",
        "int fallenTotal()",
        "double meanPositive() throws ArithmeticException",
        "long meanPositiveBits() throws ArithmeticException",
        "boolean isConsistent()",
        "int renderColumn(int) throws IllegalArgumentException",
        "int renderEntry(int) throws IndexOutOfBoundsException",
        "char outputAt(int) throws IndexOutOfBoundsException",
        "int type(char) throws IllegalArgumentException, IllegalStateException",
        "int runScript() throws IllegalArgumentException, IllegalStateException",
        "int errorPosition() throws NoSuchElementException",
        "int failedCommand() throws NoSuchElementException",
        "int undo() throws NoSuchElementException",
        "int save()",
        "int restore() throws IllegalStateException",
    };

    public static void main(String[] args) {
        Class<?> face = CircusLedger.class;
        Check.same("the class", Modifier.PUBLIC | Modifier.FINAL, face.getModifiers());
        Check.same("it extends nothing", Object.class, face.getSuperclass());
        Check.same("it implements nothing", 0, face.getInterfaces().length);
        Set<String> methods = new TreeSet<>();
        for (Method method : face.getDeclaredMethods()) {
            if (isOpen(method)) {
                methods.add(told(method));
            }
        }
        Check.same("the methods", new TreeSet<>(Arrays.asList(FACE)), methods);
        for (Constructor<?> constructor : face.getDeclaredConstructors()) {
            Check.same("the constructor", Modifier.PUBLIC, constructor.getModifiers());
            Check.same("its parameters", 0, constructor.getParameterCount());
        }
        for (Field field : face.getDeclaredFields()) {
            Check.same("open field " + field.getName(), false, isOpen(field));
        }
        for (Class<?> inside : face.getDeclaredClasses()) {
            Check.same("open class " + inside.getName(), false, Modifier.isPublic(inside.getModifiers()));
            Check.same("static class " + inside.getName(), true, Modifier.isStatic(inside.getModifiers()));
        }
        namesAreNotUsedAgain(face);
        Check.finish();
    }

    private static void namesAreNotUsedAgain(Class<?> face) {
        List<Class<?>> all = new ArrayList<>(Arrays.asList(face.getDeclaredClasses()));
        all.add(face);
        Set<String> names = new TreeSet<>();
        for (String method : FACE) {
            names.add(method.substring(method.indexOf(' ') + 1, method.indexOf('(')));
        }
        for (Class<?> each : all) {
            for (Method method : each.getDeclaredMethods()) {
                boolean isOfFace = each == face && isOpen(method);
                Check.same("name of " + method, false, !isOfFace && names.contains(method.getName()));
            }
        }
    }

    private static boolean isOpen(Member member) {
        return !Modifier.isPrivate(member.getModifiers()) && !member.isSynthetic();
    }

    private static String told(Method method) {
        List<String> parameters = new ArrayList<>();
        for (Class<?> parameter : method.getParameterTypes()) {
            parameters.add(parameter.getName());
        }
        List<String> exceptions = new ArrayList<>();
        for (Class<?> exception : method.getExceptionTypes()) {
            exceptions.add(exception.getSimpleName());
        }
        String extra = Modifier.toString(method.getModifiers()).replace("public", "").trim();
        return (extra.isEmpty() ? "" : extra + " ") + method.getReturnType().getName() + " " + method.getName()
                + "(" + String.join(",", parameters) + ")"
                + (exceptions.isEmpty() ? "" : " throws " + String.join(", ", exceptions));
    }
}
