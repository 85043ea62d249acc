import java.io.IOException;
import java.nio.file.Files;
import java.nio.file.Path;
import java.util.List;
import java.util.regex.Matcher;
import java.util.regex.Pattern;

/** The rules of ../shared/LANGUAGE.md that the text of the class shows; FaceTest has its rule 1. */
public final class LanguageTest {

    private static final Path SOURCE = Path.of("src/main/java/TunedWrens.java");

    /** What the class could do without a word of, by the rules 1, 2, 3, 4, 5, 6 and 10. */
    private static final String[] FORBIDDEN = {
        "\\bpackage\\b", "\\bimport\\b", "->", "::", "\\bstatic\\s*\\{", "\\bsynchronized\\b", "\\bassert\\b",
        "\\btry\\b", "\\bcatch\\b", "\\bfinally\\b", "Exact\\s*\\(", "\\bdouble\\b", "\\bfloat\\b", "\\bSystem\\.",
        "\\bThread\\b", "\\bRandom\\b", "\\binstanceof\\b", "\"\\s*\\+", "\\+\\s*\"", "\\bwhile\\b", "\\bvar\\b",
    };

    public static void main(String[] args) throws IOException {
        String code = withoutComments(Files.readString(SOURCE));
        for (String forbidden : FORBIDDEN) {
            Check.holds("the class does without " + forbidden, !Pattern.compile(forbidden).matcher(code).find());
        }
        theLibraryIsMathAlone(code);
        onlyTheExceptionsOfTheDocument(code);
        arraysAreMadeOnlyWithTheObject(code);
        methodsAreShort(Files.readAllLines(SOURCE));
        Check.end();
    }

    private static String withoutComments(String code) {
        return code.replaceAll("(?s)/\\*.*?\\*/", "").replaceAll("//[^\n]*", "");
    }

    private static void theLibraryIsMathAlone(String code) {
        Matcher call = Pattern.compile("\\b([A-Z]\\w*)\\.(\\w+)\\s*\\(").matcher(code);
        while (call.find()) {
            boolean known = List.of("floorDiv", "floorMod", "abs", "max", "min").contains(call.group(2));
            Check.holds(call.group() + " is in the library", call.group(1).equals("Math") && known);
        }
    }

    private static void onlyTheExceptionsOfTheDocument(String code) {
        Matcher thrown = Pattern.compile("\\bthrow\\b(.*)").matcher(code);
        while (thrown.find()) {
            boolean known = thrown.group(1).matches(" new (IndexOutOfBounds|IllegalArgument)Exception\\(\"[ -~]*\"\\);");
            Check.holds("throw" + thrown.group(1), known);
        }
    }

    /** The fields' arrays, and the exceptions, are all that is ever made. */
    private static void arraysAreMadeOnlyWithTheObject(String code) {
        Matcher made = Pattern.compile("(.*)\\bnew (?!\\w+Exception\\()").matcher(code);
        while (made.find()) {
            Check.holds(made.group() + " is a field's", made.group(1).startsWith("    private final int[] "));
        }
    }

    private static void methodsAreShort(List<String> lines) {
        int start = 0;
        for (int line = 0; line < lines.size(); line++) {
            if (lines.get(line).matches("    (public|private) .*\\(.*")) {
                start = line;
            }
            if (lines.get(line).equals("    }")) {
                Check.holds("the method at line " + (start + 1) + " is short", line - start < 60);
            }
        }
    }
}
