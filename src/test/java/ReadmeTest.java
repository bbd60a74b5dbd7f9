import java.io.IOException;
import java.lang.reflect.InvocationTargetException;
import java.lang.reflect.Method;
import java.lang.reflect.Modifier;
import java.nio.file.Files;
import java.nio.file.Path;
import java.util.Arrays;
import java.util.Set;
import java.util.TreeSet;
import java.util.regex.Matcher;
import java.util.regex.Pattern;

/** Makes the calls of the example in README.md, line by line, and compares what README.md says of them. */
public final class ReadmeTest {
    private static final Pattern CALL = Pattern.compile(
            "circus\\.(\\w+)\\(([-\\d, ]*)\\);\\s*// (answers|throws) ([-\\w]+)(: the output text is \"(.*)\"|: .*)?");
    private static final Pattern TYPING = Pattern.compile("for \\(char sign : \"(.*)\"\\.toCharArray\\(\\)\\) \\{");
    /** The lines of the example that ask for nothing: those of the loop are met by its first line. */
    private static final String QUIET = "|//.*|\\}|circus\\.type\\(sign\\);|CircusLedger circus = new CircusLedger\\(\\);";

    public static void main(String[] args) throws IOException {
        String readme = Files.readString(Path.of("README.md"));
        Matcher example = Pattern.compile("(?s)```java\n(.*?)```").matcher(readme);
        Check.same("there is an example", true, example.find());
        CircusLedger circus = new CircusLedger();
        for (String line : example.group(1).split("\n")) {
            follow(circus, line.trim());
        }
        Check.same("all calls of the face are named", calls(), namedCalls(readme));
        Check.finish();
    }

    private static void follow(CircusLedger circus, String line) {
        Matcher call = CALL.matcher(line);
        Matcher typing = TYPING.matcher(line);
        if (call.matches()) {
            int[] arguments = call.group(2).isEmpty() ? new int[0]
                    : Arrays.stream(call.group(2).split(", ")).mapToInt(Integer::parseInt).toArray();
            String got = Check.outcome(() -> answer(circus, call.group(1), arguments));
            boolean answers = call.group(3).equals("answers");
            Check.same(line, answers ? call.group(4) : "throws java.lang." + call.group(4), got);
            if (call.group(6) != null) {
                Check.same(line, call.group(6), Make.output(circus, Integer.parseInt(got)));
            }
        } else if (typing.matches()) {
            Make.type(circus, typing.group(1));
        } else {
            Check.same("known line: " + line, true, line.matches(QUIET));
        }
    }

    private static Object answer(CircusLedger circus, String name, int[] arguments) {
        Class<?>[] types = new Class<?>[arguments.length];
        Arrays.fill(types, int.class);
        try {
            return CircusLedger.class.getMethod(name, types).invoke(circus, Arrays.stream(arguments).boxed().toArray());
        } catch (InvocationTargetException e) {
            throw (RuntimeException) e.getCause();
        } catch (ReflectiveOperationException e) {
            throw new AssertionError(e);
        }
    }

    private static Set<String> calls() {
        Set<String> names = new TreeSet<>();
        for (Method method : CircusLedger.class.getDeclaredMethods()) {
            if (Modifier.isPublic(method.getModifiers())) {
                names.add(method.getName());
            }
        }
        return names;
    }

    private static Set<String> namedCalls(String readme) {
        Set<String> names = new TreeSet<>();
        Matcher rows = Pattern.compile("(?m)^\\| ((?:`[a-z]\\w*` )+)\\|").matcher(readme);
        while (rows.find()) {
            names.addAll(Arrays.asList(rows.group(1).replace("`", "").trim().split(" ")));
        }
        return names;
    }
}
