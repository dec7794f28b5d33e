import java.util.ArrayList;
import java.util.Arrays;
import java.util.List;
import java.util.TreeSet;
import java.util.function.IntPredicate;
import java.util.regex.Matcher;
import java.util.regex.Pattern;

/**
 * The document once more, written as plainly as the Java library allows and in another way than the class:
 * the reader collects all errors and takes the first, and undo has whole copies. ModelTest compares both.
 */
final class PlansModel {
    static final int[] GREATEST = {9999, 999, 1};
    private static final List<String> TYPES = List.of("number", "day", "flag");
    private static final int[] NO_VALUES = null;

    private static final class Comparison {
        int column;
        char sign;
        Integer number;
        Integer other;
        Integer hole;

        /** Null for the value of a hole that is not seen. */
        Integer seen(int[] values) {
            return number != null ? number : values == NO_VALUES ? null : (Integer) values[hole];
        }

        boolean holds(int[] row, int[] values) {
            int right = other != null ? row[other] : seen(values);
            return sign == '<' ? row[column] < right : sign == '>' ? row[column] > right : row[column] == right;
        }
    }

    /** what is "or", "and", "not" or "comparison". */
    private static final class Node {
        final String what;
        final List<Node> parts = new ArrayList<>();
        Comparison comparison;

        Node(String what) {
            this.what = what;
        }

        boolean holds(int[] row, int[] values) {
            switch (what) {
                case "or": return parts.stream().anyMatch(part -> part.holds(row, values));
                case "and": return parts.stream().allMatch(part -> part.holds(row, values));
                case "not": return !parts.get(0).holds(row, values);
                default: return comparison.holds(row, values);
            }
        }

        List<Comparison> sargable() {
            List<Comparison> found = new ArrayList<>();
            if (what.equals("comparison") && comparison.other == null) {
                found.add(comparison);
            }
            if (what.equals("and") || what.equals("or") && parts.size() == 1) {
                parts.forEach(part -> found.addAll(part.sargable()));
            }
            return found;
        }
    }

    private static final class Statement {
        String name;
        Node condition;
        int[] types = {-1, -1, -1, -1};
        int runs;
        int generics;
        int touched;
        List<Integer> specialCosts = new ArrayList<>();
        /** Plan, cost and version; null if none is kept. */
        int[] kept;
        int[] percentages = {100, 100, 100, 100, 100};

        Statement copy() {
            Statement copy = new Statement();
            copy.name = name;
            copy.condition = condition;
            copy.types = types;
            copy.runs = runs;
            copy.generics = generics;
            copy.touched = touched;
            copy.specialCosts.addAll(specialCosts);
            copy.kept = kept;
            copy.percentages = percentages.clone();
            return copy;
        }

        int sumOfSpecialCosts() {
            return specialCosts.stream().mapToInt(cost -> cost).sum();
        }
    }

    private static final class World {
        List<String> names = new ArrayList<>();
        List<Integer> types = new ArrayList<>();
        TreeSet<Integer> indexes = new TreeSet<>();
        List<int[]> rows = new ArrayList<>();
        List<int[]> counted = new ArrayList<>();
        List<Statement> statements = new ArrayList<>();
        int version;
        int[] cost = {1, 3, 2};
        int tries = 3;

        World copy() {
            World copy = new World();
            copy.names = names;
            copy.types = types;
            copy.indexes.addAll(indexes);
            copy.rows.addAll(rows);
            copy.counted = counted;
            statements.forEach(statement -> copy.statements.add(statement.copy()));
            copy.version = version;
            copy.cost = cost;
            copy.tries = tries;
            return copy;
        }

        /** The values of a column in the rows that the statistics have seen. */
        TreeSet<Integer> valuesCounted(int column) {
            TreeSet<Integer> values = new TreeSet<>();
            counted.forEach(row -> values.add(row[column]));
            return values;
        }

        int estimate(Comparison comparison, int[] values) {
            int n = counted.size();
            if (n == 0) {
                return 0;
            }
            TreeSet<Integer> different = valuesCounted(comparison.column);
            int least = different.first();
            int greatest = different.last();
            Integer v = comparison.seen(values);
            if (comparison.sign == '=') {
                return v != null && (v < least || v > greatest) ? 0 : (int) Math.ceil((double) n / different.size());
            }
            if (v == null) {
                return (n + 2) / 3;
            }
            int part = comparison.sign == '<' ? v - least : greatest - v;
            int estimate = n * part / (greatest - least + 1);
            return estimate < 0 ? 0 : estimate > n ? n : estimate;
        }

        Comparison chosen(Statement statement, int column, int[] values) {
            return statement.condition.sargable().stream().filter(c -> c.column == column)
                    .min((x, y) -> Integer.compare(estimate(x, values), estimate(y, values))).orElse(null);
        }

        int costOf(Statement statement, int plan, int[] values) {
            if (plan == -1) {
                return cost[0] * counted.size();
            }
            Comparison chosen = chosen(statement, plan, values);
            if (chosen == null || !indexes.contains(plan)) {
                return -1;
            }
            return cost[1] + cost[2] * (estimate(chosen, values) * statement.percentages[plan] / 100);
        }

        int best(Statement statement, int[] values) {
            int best = -1;
            for (int plan = 0; plan < names.size(); plan++) {
                int candidate = costOf(statement, plan, values);
                if (candidate >= 0 && candidate < costOf(statement, best, values)) {
                    best = plan;
                }
            }
            return best;
        }

        int[] genericNow(Statement statement) {
            int plan = best(statement, NO_VALUES);
            return new int[] {plan, costOf(statement, plan, NO_VALUES), version};
        }

        boolean isFresh(Statement statement) {
            return statement.kept != null && statement.kept[2] == version;
        }

        int use(Statement statement, int[] values) {
            if (statement.runs >= tries) {
                int[] generic = isFresh(statement) ? statement.kept : genericNow(statement);
                if (generic[1] * statement.specialCosts.size() <= statement.sumOfSpecialCosts()) {
                    return 2 * (generic[0] + 1) + 1;
                }
            }
            return 2 * (best(statement, values) + 1);
        }

        void run(Statement statement, int[] values) {
            int use = use(statement, values);
            int plan = (use >> 1) - 1;
            int[] seen = (use & 1) == 1 ? NO_VALUES : values;
            if (statement.runs >= tries && !isFresh(statement)) {
                statement.kept = genericNow(statement);
                statement.generics++;
            }
            if (seen == values) {
                statement.specialCosts.add(costOf(statement, plan, values));
            }
            statement.runs++;
            if (plan == -1) {
                statement.touched += rows.size();
                return;
            }
            Comparison chosen = chosen(statement, plan, seen);
            int touched = (int) rows.stream().filter(row -> chosen.holds(row, values)).count();
            statement.touched += touched;
            int p = Math.min(1000, 100 * touched / Math.max(1, estimate(chosen, seen)));
            statement.percentages[plan] = (3 * statement.percentages[plan] + p) / 4;
        }
    }

    /** Reads a text: semantic errors are collected, the first error of syntax ends it. */
    private static final class Reader {
        private static final class SyntaxError extends RuntimeException {
            private static final long serialVersionUID = 1L;
        }

        private static final Pattern TOKEN = Pattern.compile("[a-z]+|[0-9]+|[^ ]", Pattern.DOTALL);
        private final List<String> tokens = new ArrayList<>();
        private final List<Integer> offsets = new ArrayList<>();
        private final World world = new World();
        private int at;
        private long first = Long.MAX_VALUE;

        Reader(String text) {
            Matcher matcher = TOKEN.matcher(text);
            while (matcher.find()) {
                tokens.add(matcher.group());
                offsets.add(matcher.start());
            }
            tokens.add("");
            offsets.add(text.length());
            try {
                setup();
            } catch (SyntaxError e) {
                error(-2, offsets.get(at));
            }
            world.counted = List.copyOf(world.rows);
        }

        /** The one with the smallest offset counts, then the one that the document's list names first. */
        private void error(int kind, int offset) {
            first = Math.min(first, offset * 100L - kind);
        }

        boolean isWrong() {
            return first != Long.MAX_VALUE;
        }

        private void setup() {
            need("table");
            need(";");
            for (int i = 1; is("column"); i++) {
                limit(i, 5);
                need("column");
                int offset = offsets.get(at);
                String name = name();
                if (world.names.contains(name)) {
                    error(-5, offset);
                }
                int type = TYPES.indexOf(tokens.get(at));
                syntax(type >= 0);
                at++;
                need(";");
                world.names.add(name);
                world.types.add(type);
            }
            while (is("index")) {
                need("index");
                int offset = offsets.get(at);
                int column = column();
                if (column >= 0 && !world.indexes.add(column)) {
                    error(-5, offset);
                }
                need(";");
            }
            for (int i = 1; is("row"); i++) {
                syntax(!world.names.isEmpty());
                limit(i, 40);
                need("row");
                int[] row = new int[5];
                for (int column = 0; column < world.names.size(); column++) {
                    int number = number(GREATEST[world.types.get(column)]);
                    if (column < 5) {
                        row[column] = number;
                    }
                }
                need(";");
                world.rows.add(row);
            }
            for (int i = 1; is("prepare"); i++) {
                limit(i, 6);
                need("prepare");
                prepare();
            }
            settings();
            syntax(is(""));
        }

        private void settings() {
            if (is("cost")) {
                at++;
                world.cost = new int[] {number(99), number(99), number(99)};
                need(";");
            }
            if (is("tries")) {
                at++;
                world.tries = number(99);
                need(";");
            }
        }

        private void limit(int count, int most) {
            if (count > most) {
                error(-7, offsets.get(at));
            }
        }

        private void prepare() {
            int offset = offsets.get(at);
            Statement statement = new Statement();
            statement.name = name();
            if (world.statements.stream().anyMatch(other -> other.name.equals(statement.name))) {
                error(-5, offset);
            }
            statement.condition = condition(statement, 0);
            need(";");
            world.statements.add(statement);
        }

        private Node condition(Statement statement, int depth) {
            Node any = new Node("or");
            do {
                Node all = new Node("and");
                do {
                    all.parts.add(factor(statement, depth));
                } while (skip("and"));
                any.parts.add(all);
            } while (skip("or"));
            return any;
        }

        private Node factor(Statement statement, int depth) {
            if (depth >= 6 && (is("not") || is("("))) {
                error(-8, offsets.get(at));
            }
            if (skip("not")) {
                Node not = new Node("not");
                not.parts.add(factor(statement, depth + 1));
                return not;
            }
            if (skip("(")) {
                Node inner = condition(statement, depth + 1);
                need(")");
                return inner;
            }
            Node node = new Node("comparison");
            node.comparison = comparison(statement);
            return node;
        }

        private Comparison comparison(Statement statement) {
            Comparison comparison = new Comparison();
            comparison.column = column();
            int type = comparison.column < 0 ? 0 : world.types.get(comparison.column);
            syntax(is("<") || is("=") || is(">"));
            comparison.sign = tokens.get(at++).charAt(0);
            int offset = offsets.get(at);
            if (isNumber()) {
                comparison.number = number(GREATEST[type]);
            } else if (skip("?")) {
                int hole = number(3);
                comparison.hole = Math.min(hole, 3);
                if (hole <= 3 && statement.types[hole] >= 0 && statement.types[hole] != type) {
                    error(-6, offset);
                }
                statement.types[comparison.hole] = type;
            } else {
                comparison.other = column();
                if (comparison.other >= 0 && !world.types.get(comparison.other).equals(type)) {
                    error(-6, offset);
                }
            }
            return comparison;
        }

        private boolean is(String token) {
            return tokens.get(at).equals(token);
        }

        private boolean skip(String token) {
            if (!is(token)) {
                return false;
            }
            at++;
            return true;
        }

        private void syntax(boolean isRight) {
            if (!isRight) {
                throw new SyntaxError();
            }
        }

        private void need(String token) {
            syntax(skip(token));
        }

        private String name() {
            syntax(tokens.get(at).matches("[a-z]{1,8}") && !tokens.get(at).matches("or|and|not"));
            return tokens.get(at++);
        }

        private int column() {
            int offset = offsets.get(at);
            int column = world.names.indexOf(name());
            if (column < 0) {
                error(-4, offset);
            }
            return column;
        }

        private boolean isNumber() {
            return tokens.get(at).matches("[0-9]+");
        }

        private int number(int greatest) {
            syntax(isNumber());
            String digits = tokens.get(at).replaceFirst("^0+", "");
            int number = digits.isEmpty() ? 0 : digits.length() > 5 ? 99999 : Integer.parseInt(digits);
            if (number > greatest) {
                error(-3, offsets.get(at));
            }
            at++;
            return number;
        }
    }

    private final StringBuilder buffer = new StringBuilder();
    private int errorOffset = -1;
    private World world = new World();
    private final ArrayList<World> before = new ArrayList<>();

    private static void argument(boolean isRight) {
        if (!isRight) {
            throw new IllegalArgumentException();
        }
    }

    private static void index(int index, int count) {
        if (index < 0 || index >= count) {
            throw new IndexOutOfBoundsException();
        }
    }

    private void change() {
        before.add(world);
        if (before.size() > 8) {
            before.remove(0);
        }
        world = world.copy();
    }

    private String take(int length) {
        argument(length >= 0 && length <= buffer.length());
        String text = buffer.substring(0, length);
        buffer.setLength(0);
        return text;
    }

    int append(int... words) {
        if (buffer.length() + 20 > 800) {
            return -1;
        }
        for (int word : words) {
            for (int shift = 24; shift >= 0; shift -= 8) {
                buffer.append((char) (word >>> shift & 255));
            }
        }
        return buffer.length();
    }

    int load(int length) {
        Reader reader = new Reader(take(length));
        if (reader.isWrong()) {
            errorOffset = (int) (reader.first / 100);
            return -(int) (reader.first % 100);
        }
        errorOffset = -1;
        change();
        world = reader.world;
        return world.statements.size();
    }

    int errorOffset() {
        return errorOffset;
    }

    int count(int what) {
        argument(what >= 0 && what <= 8);
        int[] counts = {world.names.size(), world.rows.size(), world.statements.size(), world.version,
            world.cost[0], world.cost[1], world.cost[2], world.tries, world.counted.size()};
        return counts[what];
    }

    int column(int column, int what) {
        index(column, world.names.size());
        argument(what >= 0 && what <= 4);
        TreeSet<Integer> values = world.valuesCounted(column);
        int[] answers = {world.types.get(column), world.indexes.contains(column) ? 1 : 0, values.size(),
            values.isEmpty() ? 0 : values.first(), values.isEmpty() ? 0 : values.last()};
        return answers[what];
    }

    int value(int row, int column) {
        index(row, world.rows.size());
        index(column, world.names.size());
        return world.rows.get(row)[column];
    }

    int named(int length) {
        String name = take(length);
        for (int i = 0; i < world.statements.size(); i++) {
            if (world.statements.get(i).name.equals(name)) {
                return i;
            }
        }
        return -1;
    }

    private Statement at(int statement) {
        index(statement, world.statements.size());
        return world.statements.get(statement);
    }

    private Statement at(int statement, int... values) {
        Statement found = at(statement);
        for (int hole = 0; hole < 4; hole++) {
            argument(values[hole] >= 0 && values[hole] <= (found.types[hole] < 0 ? 0 : GREATEST[found.types[hole]]));
        }
        return found;
    }

    int hole(int statement, int hole) {
        Statement found = at(statement);
        argument(hole >= 0 && hole <= 3);
        return found.types[hole];
    }

    int statement(int statement, int what) {
        Statement found = at(statement);
        argument(what >= 0 && what <= 5);
        int[] answers = {found.runs, found.specialCosts.size(), found.sumOfSpecialCosts(), found.generics,
            found.kept == null ? 0 : world.isFresh(found) ? 1 : 2, found.touched};
        return answers[what];
    }

    int learned(int statement, int column) {
        Statement found = at(statement);
        index(column, world.names.size());
        return found.percentages[column];
    }

    int kept(int statement) {
        Statement found = at(statement);
        return found.kept == null ? -2 : found.kept[0];
    }

    int genericCost(int statement, int plan) {
        Statement found = at(statement);
        argument(plan >= -1 && plan < world.names.size());
        return world.costOf(found, plan, NO_VALUES);
    }

    int special(int statement, int... values) {
        return world.best(at(statement, values), values);
    }

    int specialCost(int statement, int plan, int... values) {
        Statement found = at(statement, values);
        argument(plan >= -1 && plan < world.names.size());
        return world.costOf(found, plan, values);
    }

    int wouldUse(int statement, int... values) {
        return world.use(at(statement, values), values);
    }

    long rows(int statement, int... values) {
        Statement found = at(statement, values);
        long rows = 0;
        IntPredicate isFound = row -> found.condition.holds(world.rows.get(row), values);
        for (int row = 0; row < world.rows.size(); row++) {
            rows += isFound.test(row) ? 1L << row : 0;
        }
        return rows;
    }

    int run(int statement, int... values) {
        at(statement, values);
        change();
        world.run(at(statement), values);
        return Long.bitCount(rows(statement, values));
    }

    int insert(int... values) {
        for (int i = 0; i < 5; i++) {
            argument(values[i] >= 0 && values[i] <= (i < world.types.size() ? GREATEST[world.types.get(i)] : 0));
        }
        if (world.names.isEmpty() || world.rows.size() == 40) {
            throw new IllegalStateException();
        }
        change();
        world.rows.add(values.clone());
        return world.rows.size();
    }

    int delete(int row) {
        index(row, world.rows.size());
        change();
        world.rows.remove(row);
        return world.rows.size();
    }

    boolean setIndex(int column, boolean isIndexed) {
        index(column, world.names.size());
        change();
        boolean isChange = isIndexed ? world.indexes.add(column) : world.indexes.remove(column);
        world.version += isChange ? 1 : 0;
        return isChange;
    }

    int analyze() {
        change();
        world.counted = List.copyOf(world.rows);
        return ++world.version;
    }

    int undo() {
        if (before.isEmpty()) {
            return -1;
        }
        world = before.remove(before.size() - 1);
        return before.size();
    }

    long checksum() {
        List<Integer> numbers = new ArrayList<>();
        for (int what = 0; what <= 8; what++) {
            numbers.add(count(what));
        }
        for (int column = 0; column < world.names.size(); column++) {
            for (int what = 0; what <= 4; what++) {
                numbers.add(column(column, what));
            }
        }
        for (int[] row : world.rows) {
            Arrays.stream(row, 0, world.names.size()).forEach(numbers::add);
        }
        for (int i = 0; i < world.statements.size(); i++) {
            for (int what = 0; what <= 5; what++) {
                numbers.add(statement(i, what));
            }
            numbers.add(kept(i));
            Arrays.stream(at(i).types).forEach(numbers::add);
            Arrays.stream(at(i).percentages, 0, world.names.size()).forEach(numbers::add);
        }
        long sum = 0;
        for (int number : numbers) {
            sum = 31 * sum + number;
        }
        return sum;
    }
}
