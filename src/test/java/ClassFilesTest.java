import java.io.IOException;
import java.lang.reflect.Field;
import java.lang.reflect.Modifier;
import java.util.ArrayList;
import java.util.HashMap;
import java.util.HashSet;
import java.util.List;
import java.util.Map;
import java.util.Set;

/** What LANGUAGE.md rules out and what the compiled classes can tell; a check's text begins with the rule's number. */
public final class ClassFilesTest {
    /** The enum constructors and lookups that the compiler writes are not the program's own. */
    private static final String LIBRARY = "java/lang/Object\\.<init>:\\(\\)V"
            + "|java/lang/Enum\\.(<init>|valueOf):.*|\\[LCircusLedger\\$\\w+;\\.clone:.*|\\[[IJZBCSDF]\\.clone:.*"
            + "|java/lang/String\\.(length|charAt|isEmpty|equals|substring|toCharArray):.*|java/lang/String\\.indexOf:\\(I\\)I"
            + "|java/lang/StringBuilder\\.(charAt|setCharAt|setLength|deleteCharAt|reverse|length|toString):.*"
            + "|java/lang/StringBuilder\\.<init>:\\(\\)V"
            + "|java/lang/StringBuilder\\.append:\\((C|I|Ljava/lang/String;)\\)Ljava/lang/StringBuilder;"
            + "|java/lang/(Integer|Long|Math)\\.(compare|max|min|abs|bitCount|floorDiv|floorMod):.*"
            + "|java/lang/System\\.arraycopy:.*|java/util/Arrays\\.(copyOf|copyOfRange):\\(\\[[IJZBCSDF]I+\\).*"
            + "|java/util/Arrays\\.fill:\\(\\[[IJZBCSDF][IJZBCSDF]\\)V"
            + "|java/(lang/(IllegalState|IllegalArgument|IndexOutOfBounds|Arithmetic|UnsupportedOperation|Runtime)"
            + "|util/NoSuchElement)Exception\\.<init>:\\((Ljava/lang/String;)?\\)V";
    private static final String CONSTANTS = "int|long|boolean|char|java\\.lang\\.String|\\[[IJBC]|(\\[L)?CircusLedger\\$\\w+;?";
    private static final int MOST_PARAMETERS = 7;
    private static final int MOST_CLASSES = 12;
    private static final int MOST_FIELDS = 20;
    private static final int DEEPEST = 8;
    private static final int FLOAT_REMAINDER = 114;
    private static final int DOUBLE_REMAINDER = 115;
    private static final int MONITOR_ENTER = 194;

    private final Map<String, ClassFile.Method> methods = new HashMap<>();

    public static void main(String[] args) throws IOException {
        ClassFilesTest test = new ClassFilesTest();
        List<Class<?>> classes = new ArrayList<>(List.of(CircusLedger.class.getDeclaredClasses()));
        classes.add(CircusLedger.class);
        Check.same("11 not too many classes", true, classes.size() <= MOST_CLASSES);
        for (Class<?> each : classes) {
            fields(each);
            test.read(new ClassFile(each.getName()));
        }
        test.depths();
        Check.finish();
    }

    private static void fields(Class<?> owner) {
        int own = 0;
        for (Field field : owner.getDeclaredFields()) {
            String what = " of " + field;
            if (Modifier.isStatic(field.getModifiers())) {
                Check.same("5 final" + what, true, Modifier.isFinal(field.getModifiers()));
                Check.same("5 type" + what, true, field.getType().getName().matches(CONSTANTS));
            } else {
                own++;
            }
        }
        Check.same("11 not too many fields in " + owner, true, own <= MOST_FIELDS);
    }

    private void read(ClassFile file) {
        for (ClassFile.Method method : file.methods) {
            String what = " in " + file.name + "." + method.name();
            methods.put(file.name + "." + method.name() + ":" + method.descriptor(), method);
            Check.same("6 no try" + what, 0, method.catches());
            Check.same("3 no remainder of floats" + what, false, method.operations().contains(FLOAT_REMAINDER));
            Check.same("3 no remainder of doubles" + what, false, method.operations().contains(DOUBLE_REMAINDER));
            Check.same("6 no lock" + what, false, method.operations().contains(MONITOR_ENTER));
            Check.same("2 no lambda" + what, false, method.operations().contains(ClassFile.INVOKEDYNAMIC));
            Check.same("11 parameters" + what, true, parameters(method.descriptor()) <= MOST_PARAMETERS);
            for (String call : method.calls()) {
                Check.same("4 " + call + what, true, call.startsWith("CircusLedger") || call.matches(LIBRARY));
            }
        }
    }

    private static int parameters(String descriptor) {
        String inside = descriptor.substring(1, descriptor.indexOf(')'));
        return inside.replaceAll("\\[*(L[^;]*;|[IJZBCSDF])", "x").length();
    }

    private void depths() {
        Check.same("11 the program's methods were read", true, methods.containsKey("CircusLedger.runScript:()I"));
        for (String method : methods.keySet()) {
            if (method.startsWith("CircusLedger.")) {
                Check.same("11 depth of " + method, true, depth(method, new HashSet<>()) <= DEEPEST);
            }
        }
    }

    /** Counts the methods of the longest chain of calls in which none comes twice, those of the library too. */
    private int depth(String method, Set<String> open) {
        int deepest = 0;
        if (methods.containsKey(method)) {
            open.add(method);
            for (String call : methods.get(method).calls()) {
                deepest = open.contains(call) ? deepest : Math.max(deepest, depth(call, open));
            }
            open.remove(method);
        }
        return 1 + deepest;
    }
}
