import java.io.IOException;
import java.nio.file.Files;
import java.nio.file.Path;
import java.util.regex.Matcher;
import java.util.regex.Pattern;

/** What LANGUAGE.md rules out and what a look at the words of the program can tell. */
public final class LanguageTest {
    private static final String[] RULED_OUT = {"(?m)^(?!\\s*(case|default)\\b).*->", "::", "\\bfinally\\b",
        "\\bcatch \\((ArrayIndexOutOfBounds|NullPointer|ClassCast|NegativeArraySize|ArrayStore)",
        "\\bcatch \\((Exception|Throwable)\\b", "\\bassert\\b", "\\bsynchronized\\b", "\\w+Exact\\b", "\\bFloat\\.",
        "\\bDouble\\.", "\\bSystem\\.(?!arraycopy\\b)", "\\bThread\\b", "\\bString\\.format\\b", "\\.equals\\(",
        "\\.hashCode\\(", "\\.getMessage\\(", "\" \\+", "\\+ \"", "\\bwhile \\(true\\)", "for \\(;;"};
    private static final int LONGEST_METHOD = 60;

    public static void main(String[] args) throws IOException {
        String program = Files.readString(Path.of("src/main/java/CircusLedger.java"));
        String code = program.replaceAll("(?s)/\\*.*?\\*/", "").replaceAll("//[^\n]*", "");
        for (String pattern : RULED_OUT) {
            Matcher matcher = Pattern.compile(pattern).matcher(code);
            Check.same("ruled out: " + pattern, false, matcher.find());
        }
        Matcher imports = Pattern.compile("import ([\\w.*]+);").matcher(code);
        while (imports.find()) {
            Check.same("import " + imports.group(1), true,
                    imports.group(1).matches("java\\.util\\.(Arrays|NoSuchElementException|ArrayList|List|Iterator)"));
        }
        Check.same("no package line", false, Pattern.compile("(?m)^package ").matcher(code).find());
        Check.same("only signs of ASCII", true, program.chars().allMatch(sign -> sign < 128));
        methodsAreShort(code);
        Check.finish();
    }

    private static void methodsAreShort(String code) {
        int started = 0;
        String[] lines = code.split("\n");
        for (int i = 0; i < lines.length; i++) {
            if (lines[i].matches(" {4}( {4})?[a-zA-Z].*\\(.*") && !lines[i].endsWith(";")) {
                started = i;
            } else if (lines[i].matches(" {4}( {4})?\\}")) {
                boolean isMethod = lines[started].indexOf(lines[started].trim()) == lines[i].indexOf('}');
                Check.same("length of " + lines[started].trim(), false, isMethod && i - started > LONGEST_METHOD);
            }
        }
    }
}
