import java.io.IOException;
import java.nio.file.Files;
import java.nio.file.Path;
import java.util.List;
import java.util.Set;
import java.util.regex.Matcher;
import java.util.regex.Pattern;

/** What of ../shared/LANGUAGE.md can be seen in the words of the source. */
public final class SourceTest {
    private static final Path SOURCE = Path.of("src/main/java/PreparedPlans.java");
    private static final List<String> NOT_ALLOWED = List.of("package", "catch", "finally", "synchronized", "assert", "transient",
            "volatile", "native", "var", "protected", "record", "sealed", "equals", "hashCode", "toString", "super", "static\\s*\\{");
    private static final Set<String> LIBRARY = Set.of("Math.min", "Math.max", "Long.bitCount", "System.arraycopy");

    public static void main(String[] args) throws IOException {
        String source = Files.readString(SOURCE);
        is("signs 1 to 127 alone", source.chars().allMatch(sign -> sign > 0 && sign < 128));
        String code = source.replaceAll("(?s)/\\*.*?\\*/|//[^\n]*", "").replaceAll("\"[^\"]*\"", "\"\"").replaceAll("'.'", "' '");
        for (String word : NOT_ALLOWED) {
            is("no " + word, !Pattern.compile("\\b" + word).matcher(code).find());
        }
        for (String sign : new String[] {"->", "::", "@", "...", "\" +", "+ \""}) {
            is("no " + sign, !code.contains(sign));
        }
        each(code, "import ([\\w.]+);", found -> is("import " + found, found.equals("java.util.ArrayList")));
        each(code, "\\b((?:Math|Long|Integer|System|Arrays|String|Character)\\.\\w+)", found -> is(found, LIBRARY.contains(found)));
        each(code, "throw (.*)", found -> is("throw " + found, found.matches(
                "new (IllegalArgument|IndexOutOfBounds|IllegalState)Exception\\(\"\"\\);")));
        checkLengths(source);
        Checks.end("SourceTest");
    }

    private interface Check {
        void of(String found);
    }

    private static void is(String what, boolean isRight) {
        Checks.same(what, isRight ? 1 : 0, 1);
    }

    private static void each(String code, String pattern, Check check) {
        Matcher matcher = Pattern.compile(pattern).matcher(code);
        while (matcher.find()) {
            check.of(matcher.group(1));
        }
    }

    /** A method begins at a line that ends with an opening brace, one or two steps in, and ends with a brace below it. */
    private static void checkLengths(String source) {
        Matcher matcher = Pattern.compile("(?ms)^(    |        )(?! )([^\n]*\\)[^\n]*\\{)\n(.*?)^\\1\\}").matcher(source);
        int methods = 0;
        while (matcher.find()) {
            methods++;
            is("at most sixty lines: " + matcher.group(2), matcher.group(3).split("\n").length <= 60);
        }
        is("methods are found", methods > 80);
    }
}
