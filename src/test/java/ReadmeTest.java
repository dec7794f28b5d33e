import java.io.IOException;
import java.lang.reflect.Method;
import java.lang.reflect.Modifier;
import java.nio.file.Files;
import java.nio.file.Path;
import java.util.Arrays;
import java.util.TreeSet;
import java.util.regex.Matcher;
import java.util.regex.Pattern;
import java.util.stream.Collectors;

/** README.md tells of every method, exception and error code as the class has them, and its example is right. */
public final class ReadmeTest {
    private static final Pattern METHOD = Pattern.compile("(?m)^\\| `(\\w+)\\(([^)]*)\\)` \\| .+ \\| ([^|]+) \\|$");
    private static final Pattern CONSTANT = Pattern.compile("(?m)^\\| `([A-Z_]+)` \\| (-\\d) \\| .+ \\|$");

    static void put(PreparedPlans plans, String text) {
        int[] words = new int[5];
        for (int start = 0; start < text.length(); start += 20) {
            for (int i = 0; i < 20; i++) {
                int sign = start + i < text.length() ? text.charAt(start + i) : ' ';
                words[i / 4] = words[i / 4] << 8 | sign;
            }
            plans.append(words[0], words[1], words[2], words[3], words[4]);
        }
    }

    static int[] example() {
        PreparedPlans plans = new PreparedPlans();
        String text = "table; column a day; column b flag; index a; row 3 0; row 4 1; row 5 1; row 9 0;"
                + "prepare p a > ?0 and b = ?1; cost 2 1 2; tries 2;";
        put(plans, text);
        int statements = plans.load(text.length());   // 1 statement
        int error = plans.errorOffset();              // -1, no error
        int use = plans.wouldUse(0, 7, 0, 0, 0);      // 2, a special plan by column 0
        int found = plans.run(0, 7, 0, 0, 0);         // 1 row with a > 7 and b = 0
        long rows = plans.rows(0, 3, 1, 0, 0);        // 6, the rows 1 and 2
        int count = plans.insert(8, 1, 0, 0, 0);      // 5 rows
        int version = plans.analyze();                // version 1 of the statistics
        int left = plans.undo();                      // 3 changes more can be undone
        return new int[] {statements, error, use, found, (int) rows, count, version, left};
    }

    public static void main(String[] args) throws IOException {
        String readme = Files.readString(Path.of("README.md"));
        answersOfTheExample();
        exampleStandsInReadme(readme);
        methods(readme);
        constants(readme);
        Checks.end("ReadmeTest");
    }

    private static void answersOfTheExample() {
        int[] due = {1, -1, 2, 1, 6, 5, 1, 3};
        int[] got = example();
        Checks.is("answers of the example: " + Arrays.toString(got), Arrays.equals(got, due));
    }

    /** The first block of Java in the README is what stands above, but for the indentation. */
    private static void exampleStandsInReadme(String readme) throws IOException {
        String source = Files.readString(Path.of("src/test/java/ReadmeTest.java"));
        Matcher block = Pattern.compile("(?s)```java\n(.*?)```").matcher(readme);
        Checks.is("there is an example", block.find());
        String indented = block.group(1).replaceAll("(?m)^(?=.)", "    ");
        Checks.is("the example is the one that is tried", source.contains(indented));
    }

    private static void methods(String readme) {
        TreeSet<String> told = new TreeSet<>();
        Matcher row = METHOD.matcher(readme);
        while (row.find()) {
            int parameters = row.group(2).isEmpty() ? 0 : row.group(2).split(", ").length;
            told.add(row.group(1) + " of " + parameters + " throws " + row.group(3));
        }
        TreeSet<String> due = new TreeSet<>();
        for (Method method : PreparedPlans.class.getDeclaredMethods()) {
            if (Modifier.isPublic(method.getModifiers())) {
                String thrown = Arrays.stream(method.getExceptionTypes()).map(Class::getSimpleName).collect(Collectors.joining(", "));
                due.add(method.getName() + " of " + method.getParameterCount() + " throws " + (thrown.isEmpty() ? "-" : thrown));
            }
        }
        Checks.is("the methods told are " + told + ", due are " + due, told.equals(due));
    }

    private static void constants(String readme) {
        TreeSet<String> told = new TreeSet<>();
        Matcher row = CONSTANT.matcher(readme);
        while (row.find()) {
            told.add(row.group(1) + row.group(2));
        }
        TreeSet<String> due = new TreeSet<>(Arrays.asList("SYNTAX_ERROR" + PreparedPlans.SYNTAX_ERROR,
                "OUT_OF_RANGE" + PreparedPlans.OUT_OF_RANGE, "UNKNOWN" + PreparedPlans.UNKNOWN,
                "DUPLICATE" + PreparedPlans.DUPLICATE, "MISMATCH" + PreparedPlans.MISMATCH,
                "TOO_MANY" + PreparedPlans.TOO_MANY, "TOO_DEEP" + PreparedPlans.TOO_DEEP));
        Checks.is("the error codes told are " + told + ", due are " + due, told.equals(due));
    }
}
