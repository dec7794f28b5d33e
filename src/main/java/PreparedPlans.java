import java.util.ArrayList;

/**
 * Prepared statements over one table: conditions with typed holes, plans by a scan or by an index,
 * special plans that see the values and generic ones that do not, statistics with versions,
 * generic plans that become stale, and costs that are learned by runs.
 */
public final class PreparedPlans {
    public static final int SYNTAX_ERROR = -2;
    public static final int OUT_OF_RANGE = -3;
    public static final int UNKNOWN = -4;
    public static final int DUPLICATE = -5;
    public static final int MISMATCH = -6;
    public static final int TOO_MANY = -7;
    public static final int TOO_DEEP = -8;

    private static final int MOST_COLUMNS = 5;
    private static final int MOST_ROWS = 40;
    private static final int MOST_STATEMENTS = 6;
    private static final int MOST_BYTES = 800;
    private static final int MOST_LETTERS = 8;
    private static final int MOST_NESTED = 6;
    private static final int MOST_UNDOABLE = 8;
    private static final int HOLES = 4;
    private static final int BYTES_OF_APPEND = 20;
    private static final int GREATEST_SETTING = 99;
    private static final int GREATEST_PERCENTAGE = 1000;

    private static final int NUMBER = 0;
    private static final int DAY = 1;
    private static final int FLAG = 2;
    private static final int NO_TYPE = -1;

    private static final long NO_NAME = 0;

    private static final int SCAN = -1;
    private static final int NO_PLAN = -2;
    private static final int NO_COST = -1;

    /** No value of a hole is negative, so that this one can stand for a value that is not seen. */
    private static final int NOT_SEEN = -1;
    private static final int[] NONE_SEEN = {NOT_SEEN, NOT_SEEN, NOT_SEEN, NOT_SEEN};

    /** The current data, those that undo can bring back, and a spare one in which the next are made. */
    private static final int SLOTS = MOST_UNDOABLE + 2;

    private final byte[] buffer = new byte[MOST_BYTES];
    private int bufferLength;
    private int latestErrorOffset = -1;
    private final Tokens tokens = new Tokens();
    private final Data[] slots = new Data[SLOTS];
    private int currentSlot;
    private int undoable;

    public PreparedPlans() {
        Setup empty = new Setup();
        for (int i = 0; i < SLOTS; i++) {
            slots[i] = new Data(empty);
        }
    }

    public int append(int w0, int w1, int w2, int w3, int w4) {
        if (bufferLength + BYTES_OF_APPEND > MOST_BYTES) {
            return -1;
        }
        appendWord(w0);
        appendWord(w1);
        appendWord(w2);
        appendWord(w3);
        appendWord(w4);
        return bufferLength;
    }

    public int load(int length) throws IllegalArgumentException {
        checkLength(length);
        bufferLength = 0;
        tokens.split(buffer, length);
        SetupReader reader = new SetupReader(tokens, slots[spareSlot()]);
        reader.readSetup();
        latestErrorOffset = reader.errorAt;
        if (reader.error != 0) {
            return reader.error;
        }
        takeSpare();
        return current().setup.statements.size();
    }

    public int errorOffset() {
        return latestErrorOffset;
    }

    public int count(int what) throws IllegalArgumentException {
        Data data = current();
        switch (what) {
            case 0: return data.setup.columnCount;
            case 1: return data.rowCount;
            case 2: return data.setup.statements.size();
            case 3: return data.version;
            case 4: return data.setup.scan;
            case 5: return data.setup.probe;
            case 6: return data.setup.fetch;
            case 7: return data.setup.tries;
            case 8: return data.statistics.rowCount;
            default: throw new IllegalArgumentException("what is out of range");
        }
    }

    public int column(int column, int what) throws IndexOutOfBoundsException, IllegalArgumentException {
        checkColumn(column);
        Data data = current();
        switch (what) {
            case 0: return data.setup.typeOf(column);
            case 1: return data.isIndexed[column] ? 1 : 0;
            case 2: return data.statistics.different[column];
            case 3: return data.statistics.least[column];
            case 4: return data.statistics.greatest[column];
            default: throw new IllegalArgumentException("what is out of range");
        }
    }

    public int value(int row, int column) throws IndexOutOfBoundsException {
        checkRow(row);
        checkColumn(column);
        return current().cell(row, column);
    }

    public int named(int length) throws IllegalArgumentException {
        checkLength(length);
        bufferLength = 0;
        return current().setup.findStatement(nameIn(buffer, 0, length));
    }

    public int hole(int statement, int hole) throws IndexOutOfBoundsException, IllegalArgumentException {
        checkStatement(statement);
        if (hole < 0 || hole >= HOLES) {
            throw new IllegalArgumentException("there are the holes 0 to 3");
        }
        return current().setup.statements.get(statement).holeTypes[hole];
    }

    public int statement(int statement, int what) throws IndexOutOfBoundsException, IllegalArgumentException {
        checkStatement(statement);
        Data data = current();
        Usage usage = data.usages[statement];
        switch (what) {
            case 0: return usage.runs;
            case 1: return usage.specialRuns;
            case 2: return usage.specialCosts;
            case 3: return usage.genericsMade;
            case 4: return usage.keptPlan == NO_PLAN ? 0 : usage.keepsFreshPlan(data.version) ? 1 : 2;
            case 5: return usage.touched;
            default: throw new IllegalArgumentException("what is out of range");
        }
    }

    public int learned(int statement, int column) throws IndexOutOfBoundsException {
        checkStatement(statement);
        checkColumn(column);
        return current().usages[statement].percentages[column];
    }

    public int kept(int statement) throws IndexOutOfBoundsException {
        checkStatement(statement);
        return current().usages[statement].keptPlan;
    }

    public int genericCost(int statement, int plan) throws IndexOutOfBoundsException, IllegalArgumentException {
        checkStatement(statement);
        checkPlan(plan);
        return current().costOf(statement, plan, NONE_SEEN);
    }

    public int special(int statement, int v0, int v1, int v2, int v3)
            throws IndexOutOfBoundsException, IllegalArgumentException {
        int[] values = checkedValues(statement, v0, v1, v2, v3);
        return current().bestPlan(statement, values);
    }

    public int specialCost(int statement, int plan, int v0, int v1, int v2, int v3)
            throws IndexOutOfBoundsException, IllegalArgumentException {
        int[] values = checkedValues(statement, v0, v1, v2, v3);
        checkPlan(plan);
        return current().costOf(statement, plan, values);
    }

    public int wouldUse(int statement, int v0, int v1, int v2, int v3)
            throws IndexOutOfBoundsException, IllegalArgumentException {
        int[] values = checkedValues(statement, v0, v1, v2, v3);
        return spareCopy().choosePlan(statement, values);
    }

    public long rows(int statement, int v0, int v1, int v2, int v3)
            throws IndexOutOfBoundsException, IllegalArgumentException {
        int[] values = checkedValues(statement, v0, v1, v2, v3);
        return current().findRows(statement, values);
    }

    public int run(int statement, int v0, int v1, int v2, int v3)
            throws IndexOutOfBoundsException, IllegalArgumentException {
        int[] values = checkedValues(statement, v0, v1, v2, v3);
        spareCopy().execute(statement, values);
        takeSpare();
        return Long.bitCount(current().findRows(statement, values));
    }

    public int insert(int a, int b, int c, int d, int e) throws IllegalArgumentException, IllegalStateException {
        int[] values = {a, b, c, d, e};
        Setup setup = current().setup;
        for (int i = 0; i < MOST_COLUMNS; i++) {
            checkRange(values[i], setup.typeOf(i));
        }
        if (setup.columnCount == 0 || current().rowCount >= MOST_ROWS) {
            throw new IllegalStateException("there is no place for a row");
        }
        Data next = spareCopy();
        for (int i = 0; i < MOST_COLUMNS; i++) {
            next.putCell(next.rowCount, i, values[i]);
        }
        next.rowCount++;
        takeSpare();
        return current().rowCount;
    }

    public int delete(int row) throws IndexOutOfBoundsException {
        checkRow(row);
        spareCopy().removeRow(row);
        takeSpare();
        return current().rowCount;
    }

    public boolean setIndex(int column, boolean isIndexed) throws IndexOutOfBoundsException {
        checkColumn(column);
        Data next = spareCopy();
        boolean isChange = next.isIndexed[column] != isIndexed;
        if (isChange) {
            next.isIndexed[column] = isIndexed;
            next.version++;
        }
        takeSpare();
        return isChange;
    }

    public int analyze() {
        Data next = spareCopy();
        next.takeStatistics();
        next.version++;
        takeSpare();
        return current().version;
    }

    public int undo() {
        if (undoable == 0) {
            return -1;
        }
        currentSlot = (currentSlot + SLOTS - 1) % SLOTS;
        undoable--;
        return undoable;
    }

    public long checksum() {
        long sum = 0;
        for (int what = 0; what <= 8; what++) {
            sum = 31 * sum + count(what);
        }
        for (int i = 0; i < count(0); i++) {
            for (int what = 0; what <= 4; what++) {
                sum = 31 * sum + column(i, what);
            }
        }
        for (int row = 0; row < count(1); row++) {
            for (int i = 0; i < count(0); i++) {
                sum = 31 * sum + value(row, i);
            }
        }
        for (int i = 0; i < count(2); i++) {
            sum = addStatement(sum, i);
        }
        return sum;
    }

    private long addStatement(long before, int statement) {
        long sum = before;
        for (int what = 0; what <= 5; what++) {
            sum = 31 * sum + statement(statement, what);
        }
        sum = 31 * sum + kept(statement);
        for (int i = 0; i < HOLES; i++) {
            sum = 31 * sum + hole(statement, i);
        }
        for (int i = 0; i < count(0); i++) {
            sum = 31 * sum + learned(statement, i);
        }
        return sum;
    }

    private void appendWord(int word) {
        for (int shift = 24; shift >= 0; shift -= 8) {
            if (bufferLength < MOST_BYTES) {
                buffer[bufferLength] = (byte) (word >> shift);
                bufferLength++;
            }
        }
    }

    private Data current() {
        return slots[currentSlot];
    }

    private int spareSlot() {
        return (currentSlot + 1) % SLOTS;
    }

    /** Changes are made in the spare data alone, so that a call that does not take them changes nothing. */
    private Data spareCopy() {
        Data spare = slots[spareSlot()];
        spare.copyFrom(current());
        return spare;
    }

    private void takeSpare() {
        currentSlot = spareSlot();
        undoable = Math.min(undoable + 1, MOST_UNDOABLE);
    }

    private void checkLength(int length) {
        if (length < 0 || length > bufferLength) {
            throw new IllegalArgumentException("the buffer does not have this length");
        }
    }

    private void checkColumn(int column) {
        if (column < 0 || column >= current().setup.columnCount) {
            throw new IndexOutOfBoundsException("there is no such column");
        }
    }

    private void checkRow(int row) {
        if (row < 0 || row >= current().rowCount) {
            throw new IndexOutOfBoundsException("there is no such row");
        }
    }

    private void checkStatement(int statement) {
        if (statement < 0 || statement >= current().setup.statements.size()) {
            throw new IndexOutOfBoundsException("there is no such statement");
        }
    }

    private void checkPlan(int plan) {
        if (plan < SCAN || plan >= current().setup.columnCount) {
            throw new IllegalArgumentException("there is no such plan");
        }
    }

    private static void checkRange(int number, int type) {
        if (number < 0 || number > greatestOf(type)) {
            throw new IllegalArgumentException("a value is out of range");
        }
    }

    private int[] checkedValues(int statement, int v0, int v1, int v2, int v3) {
        checkStatement(statement);
        int[] values = {v0, v1, v2, v3};
        int[] types = current().setup.statements.get(statement).holeTypes;
        for (int i = 0; i < HOLES; i++) {
            checkRange(values[i], types[i]);
        }
        return values;
    }

    /** Without a type the only number is 0: that is what a hole or column that there is not must have. */
    private static int greatestOf(int type) {
        switch (type) {
            case NUMBER: return 9999;
            case DAY: return 999;
            case FLAG: return 1;
            default: return 0;
        }
    }

    /** The name that these bytes are, as a number of its own; NO_NAME if they are none. */
    private static long nameIn(byte[] text, int start, int end) {
        if (start < 0 || end > text.length || end - start > MOST_LETTERS) {
            return NO_NAME;
        }
        long name = NO_NAME;
        for (int i = start; i < end; i++) {
            if (!isLetter(text[i])) {
                return NO_NAME;
            }
            name = 32 * name + text[i] - 'a' + 1;
        }
        return name;
    }

    /** The same number for a word of the grammar. */
    private static long nameOf(String word) {
        long name = NO_NAME;
        for (int i = 0; i < word.length(); i++) {
            name = 32 * name + word.charAt(i) - 'a' + 1;
        }
        return name;
    }

    private static boolean isLetter(byte b) {
        return b >= 'a' && b <= 'z';
    }

    private static boolean isDigit(byte b) {
        return b >= '0' && b <= '9';
    }

    private static final class Prepared {
        private final long name;
        private final Condition condition;
        private final int[] holeTypes;
        private final ArrayList<Comparison> sargable = new ArrayList<>();

        Prepared(long name, Condition condition, int[] holeTypes) {
            this.name = name;
            this.condition = condition;
            this.holeTypes = holeTypes;
        }
    }

    /** What only load changes: once it is read it stays as it is, and several Data share it. */
    private static final class Setup {
        private int columnCount;
        private final long[] columnNames = new long[MOST_COLUMNS];
        private final int[] columnTypes = new int[MOST_COLUMNS];
        private final ArrayList<Prepared> statements = new ArrayList<>();
        private int scan = 1;
        private int probe = 3;
        private int fetch = 2;
        private int tries = 3;

        void addColumn(long name, int type) {
            if (columnCount < MOST_COLUMNS) {
                columnNames[columnCount] = name;
                columnTypes[columnCount] = type;
                columnCount++;
            }
        }

        int typeOf(int column) {
            return column >= 0 && column < columnCount ? columnTypes[column] : NO_TYPE;
        }

        /** Returns -1 if there is none with this name. */
        int findColumn(long name) {
            for (int i = 0; i < columnCount; i++) {
                if (columnNames[i] == name) {
                    return i;
                }
            }
            return -1;
        }

        /** Returns -1 if there is none with this name. */
        int findStatement(long name) {
            for (int i = 0; i < statements.size(); i++) {
                if (statements.get(i).name == name) {
                    return i;
                }
            }
            return -1;
        }
    }

    private abstract static class Condition {
        /** The rows for which it is true: bit k for row k. */
        abstract long matches(Data data, int[] values);

        /** Adds its sargable comparisons in the order of the text, as far as it is the whole condition. */
        abstract void addSargable(ArrayList<Comparison> found);
    }

    private static final class Comparison extends Condition {
        private static final int WITH_NUMBER = 0;
        private static final int WITH_COLUMN = 1;
        private static final int WITH_HOLE = 2;

        private final int column;
        private final char sign;
        private final int kind;
        private final int operand;

        Comparison(int column, char sign, int kind, int operand) {
            this.column = column;
            this.sign = sign;
            this.kind = kind;
            this.operand = operand;
        }

        /** The value of its number or hole. */
        int valueWith(int[] values) {
            if (kind == WITH_HOLE) {
                return operand >= 0 && operand < values.length ? values[operand] : NOT_SEEN;
            }
            return operand;
        }

        long matches(Data data, int[] values) {
            long found = 0;
            for (int row = 0; row < data.rowCount; row++) {
                int left = data.cell(row, column);
                int right = kind == WITH_COLUMN ? data.cell(row, operand) : valueWith(values);
                if (holds(left, right)) {
                    found |= 1L << row;
                }
            }
            return found;
        }

        private boolean holds(int left, int right) {
            switch (sign) {
                case '<': return left < right;
                case '>': return left > right;
                default: return left == right;
            }
        }

        void addSargable(ArrayList<Comparison> found) {
            if (kind != WITH_COLUMN) {
                found.add(this);
            }
        }
    }

    private static final class Compound extends Condition {
        private static final int AND = 0;
        private static final int OR = 1;
        private static final int NOT = 2;

        private final int kind;
        private final ArrayList<Condition> parts = new ArrayList<>();

        Compound(int kind) {
            this.kind = kind;
        }

        long matches(Data data, int[] values) {
            long all = data.allRows();
            long found = kind == AND ? all : 0;
            for (int i = 0; i < parts.size(); i++) {
                long ofPart = parts.get(i).matches(data, values);
                switch (kind) {
                    case AND: found &= ofPart; break;
                    case OR: found |= ofPart; break;
                    default: found = all & ~ofPart; break;
                }
            }
            return found;
        }

        void addSargable(ArrayList<Comparison> found) {
            boolean isTransparent = kind == AND || kind == OR && parts.size() == 1;
            for (int i = 0; isTransparent && i < parts.size(); i++) {
                parts.get(i).addSargable(found);
            }
        }
    }

    private static final class Statistics {
        private int rowCount;
        private final int[] different = new int[MOST_COLUMNS];
        private final int[] least = new int[MOST_COLUMNS];
        private final int[] greatest = new int[MOST_COLUMNS];

        void copyFrom(Statistics other) {
            rowCount = other.rowCount;
            System.arraycopy(other.different, 0, different, 0, MOST_COLUMNS);
            System.arraycopy(other.least, 0, least, 0, MOST_COLUMNS);
            System.arraycopy(other.greatest, 0, greatest, 0, MOST_COLUMNS);
        }

        /** Estimates the rows of a sargable comparison. */
        int estimate(Comparison comparison, int[] values) {
            int column = comparison.column;
            if (rowCount <= 0 || column < 0 || column >= MOST_COLUMNS) {
                return 0;
            }
            int value = comparison.valueWith(values);
            if (comparison.sign == '=') {
                return estimateEqual(column, value);
            }
            if (value == NOT_SEEN) {
                return (rowCount + 2) / 3;
            }
            int width = greatest[column] - least[column] + 1;
            if (width <= 0) {
                return 0;
            }
            int part = comparison.sign == '<' ? value - least[column] : greatest[column] - value;
            return Math.max(0, Math.min(rowCount * part / width, rowCount));
        }

        private int estimateEqual(int column, int value) {
            boolean isOutside = value != NOT_SEEN && (value < least[column] || value > greatest[column]);
            if (isOutside || different[column] <= 0) {
                return 0;
            }
            return (rowCount + different[column] - 1) / different[column];
        }
    }

    /** What the runs of one statement have left. */
    private static final class Usage {
        private int runs;
        private int specialRuns;
        private int specialCosts;
        private int genericsMade;
        private int keptPlan = NO_PLAN;
        private int keptCost;
        private int keptVersion;
        private int touched;
        private final int[] percentages = new int[MOST_COLUMNS];

        void clear() {
            runs = 0;
            specialRuns = 0;
            specialCosts = 0;
            genericsMade = 0;
            keptPlan = NO_PLAN;
            keptCost = 0;
            keptVersion = 0;
            touched = 0;
            for (int i = 0; i < MOST_COLUMNS; i++) {
                percentages[i] = 100;
            }
        }

        void copyFrom(Usage other) {
            runs = other.runs;
            specialRuns = other.specialRuns;
            specialCosts = other.specialCosts;
            genericsMade = other.genericsMade;
            keptPlan = other.keptPlan;
            keptCost = other.keptCost;
            keptVersion = other.keptVersion;
            touched = other.touched;
            System.arraycopy(other.percentages, 0, percentages, 0, MOST_COLUMNS);
        }

        boolean keepsFreshPlan(int version) {
            return keptPlan != NO_PLAN && keptVersion == version;
        }

        boolean prefersKeptPlan() {
            return keptCost * specialRuns <= specialCosts;
        }

        void keep(int plan, int cost, int version) {
            keptPlan = plan;
            keptCost = cost;
            keptVersion = version;
            genericsMade++;
        }

        void learn(int column, int rowsTouched, int estimate) {
            if (column >= 0 && column < MOST_COLUMNS) {
                int latest = Math.min(100 * rowsTouched / Math.max(estimate, 1), GREATEST_PERCENTAGE);
                percentages[column] = (3 * percentages[column] + latest) / 4;
            }
        }
    }

    /** All that undo brings back. A statement that its methods are given is one that there is. */
    private static final class Data {
        private Setup setup;
        private int rowCount;
        private int version;
        private final int[] cells = new int[MOST_ROWS * MOST_COLUMNS];
        private final boolean[] isIndexed = new boolean[MOST_COLUMNS];
        private final Statistics statistics = new Statistics();
        private final Usage[] usages = new Usage[MOST_STATEMENTS];

        Data(Setup setup) {
            this.setup = setup;
            for (int i = 0; i < MOST_STATEMENTS; i++) {
                usages[i] = new Usage();
            }
        }

        void clear(Setup newSetup) {
            setup = newSetup;
            rowCount = 0;
            version = 0;
            for (int i = 0; i < MOST_COLUMNS; i++) {
                isIndexed[i] = false;
            }
            for (int i = 0; i < MOST_STATEMENTS; i++) {
                usages[i].clear();
            }
        }

        void copyFrom(Data other) {
            setup = other.setup;
            rowCount = other.rowCount;
            version = other.version;
            System.arraycopy(other.cells, 0, cells, 0, MOST_ROWS * MOST_COLUMNS);
            for (int i = 0; i < MOST_COLUMNS; i++) {
                isIndexed[i] = other.isIndexed[i];
            }
            statistics.copyFrom(other.statistics);
            for (int i = 0; i < MOST_STATEMENTS; i++) {
                usages[i].copyFrom(other.usages[i]);
            }
        }

        private static boolean isCell(int row, int column) {
            return row >= 0 && row < MOST_ROWS && column >= 0 && column < MOST_COLUMNS;
        }

        int cell(int row, int column) {
            return isCell(row, column) ? cells[row * MOST_COLUMNS + column] : 0;
        }

        void putCell(int row, int column, int number) {
            if (isCell(row, column)) {
                cells[row * MOST_COLUMNS + column] = number;
            }
        }

        void removeRow(int row) {
            for (int i = row; i < rowCount - 1; i++) {
                for (int column = 0; column < MOST_COLUMNS; column++) {
                    putCell(i, column, cell(i + 1, column));
                }
            }
            rowCount--;
        }

        long allRows() {
            return (1L << rowCount) - 1;
        }

        void takeStatistics() {
            statistics.rowCount = rowCount;
            for (int column = 0; column < setup.columnCount; column++) {
                takeStatisticsOf(column);
            }
        }

        private void takeStatisticsOf(int column) {
            int different = 0;
            int least = rowCount > 0 ? cell(0, column) : 0;
            int greatest = least;
            for (int row = 0; row < rowCount; row++) {
                int number = cell(row, column);
                least = Math.min(least, number);
                greatest = Math.max(greatest, number);
                different += isFirst(row, column) ? 1 : 0;
            }
            statistics.different[column] = different;
            statistics.least[column] = least;
            statistics.greatest[column] = greatest;
        }

        private boolean isFirst(int row, int column) {
            for (int earlier = 0; earlier < row; earlier++) {
                if (cell(earlier, column) == cell(row, column)) {
                    return false;
                }
            }
            return true;
        }

        long findRows(int statement, int[] values) {
            return setup.statements.get(statement).condition.matches(this, values);
        }

        /** The comparison that a plan by this column uses; null if there is no sargable one. */
        private Comparison chosenFor(int statement, int column, int[] values) {
            ArrayList<Comparison> sargable = setup.statements.get(statement).sargable;
            Comparison chosen = null;
            int smallest = 0;
            for (int i = 0; i < sargable.size(); i++) {
                Comparison comparison = sargable.get(i);
                if (comparison.column == column) {
                    int estimate = statistics.estimate(comparison, values);
                    if (chosen == null || estimate < smallest) {
                        chosen = comparison;
                        smallest = estimate;
                    }
                }
            }
            return chosen;
        }

        /** What a plan costs with these values of holes; NO_COST if the statement does not have it. */
        int costOf(int statement, int plan, int[] values) {
            if (plan == SCAN) {
                return setup.scan * statistics.rowCount;
            }
            if (plan < 0 || plan >= MOST_COLUMNS || !isIndexed[plan]) {
                return NO_COST;
            }
            Comparison chosen = chosenFor(statement, plan, values);
            if (chosen == null) {
                return NO_COST;
            }
            int expected = statistics.estimate(chosen, values) * usages[statement].percentages[plan] / 100;
            return setup.probe + setup.fetch * expected;
        }

        int bestPlan(int statement, int[] values) {
            int best = SCAN;
            int smallest = costOf(statement, SCAN, values);
            for (int column = 0; column < MOST_COLUMNS; column++) {
                int cost = costOf(statement, column, values);
                if (cost != NO_COST && cost < smallest) {
                    best = column;
                    smallest = cost;
                }
            }
            return best;
        }

        /**
         * Chooses the plan of a run, and makes the generic plan if the run must.
         * Returns 2 * (the plan + 1), and 1 more if it is a generic plan.
         */
        int choosePlan(int statement, int[] values) {
            Usage usage = usages[statement];
            if (usage.runs >= setup.tries) {
                if (!usage.keepsFreshPlan(version)) {
                    int plan = bestPlan(statement, NONE_SEEN);
                    usage.keep(plan, costOf(statement, plan, NONE_SEEN), version);
                }
                if (usage.prefersKeptPlan()) {
                    return 2 * (usage.keptPlan + 1) + 1;
                }
            }
            return 2 * (bestPlan(statement, values) + 1);
        }

        void execute(int statement, int[] values) {
            Usage usage = usages[statement];
            int choice = choosePlan(statement, values);
            int plan = choice / 2 - 1;
            boolean isGeneric = choice % 2 == 1;
            if (!isGeneric) {
                usage.specialRuns++;
                usage.specialCosts += costOf(statement, plan, values);
            }
            Comparison chosen = chosenFor(statement, plan, isGeneric ? NONE_SEEN : values);
            if (plan == SCAN || chosen == null) {
                usage.touched += rowCount;
            } else {
                int touched = Long.bitCount(chosen.matches(this, values));
                usage.touched += touched;
                usage.learn(plan, touched, statistics.estimate(chosen, isGeneric ? NONE_SEEN : values));
            }
            usage.runs++;
        }
    }

    /** The tokens of a text, and the one of them that is read now. */
    private static final class Tokens {
        /** A byte that begins no word or number is a token of its own; its kind is the byte, 0 to 255. */
        private static final int END = 256;
        private static final int NAME = 257;
        private static final int AND = 258;
        private static final int OR = 259;
        private static final int NOT = 260;
        private static final int LONG_WORD = 261;
        private static final int DIGITS = 262;
        /** Above every range; a longer number stays here, so that it can't overflow. */
        private static final int TOO_GREAT = 10000;

        private final int[] kinds = new int[MOST_BYTES + 1];
        private final int[] starts = new int[MOST_BYTES + 1];
        private final long[] values = new long[MOST_BYTES + 1];
        private int count;
        private int next;
        private int kind = END;
        private int start;
        private long value;

        void split(byte[] text, int length) {
            count = 0;
            next = 0;
            int at = 0;
            for (int i = 0; i < MOST_BYTES && at < length && at < text.length; i++) {
                if (text[at] == ' ') {
                    at++;
                } else if (isLetter(text[at])) {
                    at = addWord(text, at, length);
                } else if (isDigit(text[at])) {
                    at = addNumber(text, at, length);
                } else {
                    add(text[at] & 255, at, 0);
                    at++;
                }
            }
            add(END, length, 0);
        }

        private void add(int newKind, int newStart, long newValue) {
            if (count <= MOST_BYTES) {
                kinds[count] = newKind;
                starts[count] = newStart;
                values[count] = newValue;
                count++;
            }
        }

        /** Returns the offset behind the word. */
        private int addWord(byte[] text, int from, int length) {
            int end = from;
            while (end < length && end < text.length && isLetter(text[end])) {
                end++;
            }
            long name = nameIn(text, from, end);
            add(kindOf(name), from, name);
            return end;
        }

        private static int kindOf(long name) {
            if (name == NO_NAME) {
                return LONG_WORD;
            }
            if (name == nameOf("and")) {
                return AND;
            }
            if (name == nameOf("or")) {
                return OR;
            }
            return name == nameOf("not") ? NOT : NAME;
        }

        /** Returns the offset behind the number. */
        private int addNumber(byte[] text, int from, int length) {
            int end = from;
            int number = 0;
            while (end < length && end < text.length && isDigit(text[end])) {
                number = Math.min(10 * number + text[end] - '0', TOO_GREAT);
                end++;
            }
            add(DIGITS, from, number);
            return end;
        }

        void advance() {
            if (next >= 0 && next < count) {
                kind = kinds[next];
                start = starts[next];
                value = values[next];
                next++;
            } else {
                kind = END;
            }
        }

        boolean isWord(String word) {
            return kind == NAME && value == nameOf(word);
        }
    }

    /**
     * Reads a setup text into data. Behind the first error there are no more tokens, so that the
     * methods that are still open come to their ends; what they have made is then not to be used.
     */
    private static final class SetupReader {
        private final Tokens tokens;
        private final Data data;
        private final Setup setup = new Setup();
        private int[] holeTypes = new int[HOLES];
        private int error;
        private int errorAt = -1;

        SetupReader(Tokens tokens, Data data) {
            this.tokens = tokens;
            this.data = data;
        }

        /** Each loop may begin one statement more than there can be: that one is always an error. */
        void readSetup() {
            data.clear(setup);
            tokens.advance();
            expectWord("table");
            expectByte(';');
            for (int i = 0; i <= MOST_COLUMNS && tokens.isWord("column"); i++) {
                readColumn();
            }
            for (int i = 0; i <= MOST_COLUMNS && tokens.isWord("index"); i++) {
                readIndex();
            }
            for (int i = 0; i <= MOST_ROWS && tokens.isWord("row"); i++) {
                readRow();
            }
            for (int i = 0; i <= MOST_STATEMENTS && tokens.isWord("prepare"); i++) {
                readPrepare();
            }
            readCost();
            readTries();
            if (tokens.kind != Tokens.END) {
                fail(SYNTAX_ERROR, tokens.start);
            }
            data.takeStatistics();
        }

        private void fail(int kind, int offset) {
            if (error == 0) {
                error = kind;
                errorAt = offset;
                tokens.count = 0;
                tokens.kind = Tokens.END;
            }
        }

        private void expectWord(String word) {
            if (!tokens.isWord(word)) {
                fail(SYNTAX_ERROR, tokens.start);
            }
            tokens.advance();
        }

        private void expectByte(char sign) {
            if (tokens.kind != sign) {
                fail(SYNTAX_ERROR, tokens.start);
            }
            tokens.advance();
        }

        private int takeNumber(int greatest) {
            long number = tokens.value;
            if (tokens.kind != Tokens.DIGITS) {
                fail(SYNTAX_ERROR, tokens.start);
                return 0;
            }
            if (number > greatest) {
                fail(OUT_OF_RANGE, tokens.start);
                return 0;
            }
            tokens.advance();
            return (int) number;
        }

        private long takeName() {
            long name = tokens.value;
            if (tokens.kind != Tokens.NAME) {
                fail(SYNTAX_ERROR, tokens.start);
                return NO_NAME;
            }
            tokens.advance();
            return name;
        }

        /** Returns -1 if there is an error. */
        private int takeColumn() {
            int start = tokens.start;
            int column = setup.findColumn(takeName());
            if (column < 0) {
                fail(UNKNOWN, start);
            }
            return column;
        }

        private void readColumn() {
            if (setup.columnCount >= MOST_COLUMNS) {
                fail(TOO_MANY, tokens.start);
            }
            tokens.advance();
            int start = tokens.start;
            long name = takeName();
            if (setup.findColumn(name) >= 0) {
                fail(DUPLICATE, start);
            }
            int type = takeType();
            expectByte(';');
            setup.addColumn(name, type);
        }

        private int takeType() {
            int type = NO_TYPE;
            if (tokens.isWord("number")) {
                type = NUMBER;
            } else if (tokens.isWord("day")) {
                type = DAY;
            } else if (tokens.isWord("flag")) {
                type = FLAG;
            } else {
                fail(SYNTAX_ERROR, tokens.start);
            }
            tokens.advance();
            return type;
        }

        private void readIndex() {
            tokens.advance();
            int start = tokens.start;
            int column = takeColumn();
            if (column >= 0 && column < MOST_COLUMNS) {
                if (data.isIndexed[column]) {
                    fail(DUPLICATE, start);
                }
                data.isIndexed[column] = true;
            }
            expectByte(';');
        }

        private void readRow() {
            if (setup.columnCount == 0) {
                fail(SYNTAX_ERROR, tokens.start);
            }
            if (data.rowCount >= MOST_ROWS) {
                fail(TOO_MANY, tokens.start);
            }
            tokens.advance();
            for (int column = 0; column < setup.columnCount; column++) {
                data.putCell(data.rowCount, column, takeNumber(greatestOf(setup.typeOf(column))));
            }
            expectByte(';');
            if (error == 0) {
                data.rowCount++;
            }
        }

        private void readPrepare() {
            if (setup.statements.size() >= MOST_STATEMENTS) {
                fail(TOO_MANY, tokens.start);
            }
            tokens.advance();
            int start = tokens.start;
            long name = takeName();
            if (setup.findStatement(name) >= 0) {
                fail(DUPLICATE, start);
            }
            int[] types = {NO_TYPE, NO_TYPE, NO_TYPE, NO_TYPE};
            holeTypes = types;
            Prepared prepared = new Prepared(name, readCondition(0), types);
            expectByte(';');
            if (error == 0) {
                prepared.condition.addSargable(prepared.sargable);
                setup.statements.add(prepared);
            }
        }

        private void readCost() {
            if (tokens.isWord("cost")) {
                tokens.advance();
                setup.scan = takeNumber(GREATEST_SETTING);
                setup.probe = takeNumber(GREATEST_SETTING);
                setup.fetch = takeNumber(GREATEST_SETTING);
                expectByte(';');
            }
        }

        private void readTries() {
            if (tokens.isWord("tries")) {
                tokens.advance();
                setup.tries = takeNumber(GREATEST_SETTING);
                expectByte(';');
            }
        }

        private Condition readCondition(int depth) {
            Compound any = new Compound(Compound.OR);
            Compound all = new Compound(Compound.AND);
            any.parts.add(all);
            all.parts.add(readFactor(depth));
            for (int i = 0; i < MOST_BYTES && (tokens.kind == Tokens.AND || tokens.kind == Tokens.OR); i++) {
                if (tokens.kind == Tokens.OR) {
                    all = new Compound(Compound.AND);
                    any.parts.add(all);
                }
                tokens.advance();
                all.parts.add(readFactor(depth));
            }
            return any;
        }

        private Condition readFactor(int depth) {
            if (tokens.kind == Tokens.NOT || tokens.kind == '(') {
                return readNested(depth);
            }
            int column = takeColumn();
            int type = setup.typeOf(column);
            char sign = takeSign();
            if (tokens.kind == Tokens.DIGITS) {
                return new Comparison(column, sign, Comparison.WITH_NUMBER, takeNumber(greatestOf(type)));
            }
            if (tokens.kind == '?') {
                return new Comparison(column, sign, Comparison.WITH_HOLE, takeHole(type));
            }
            int start = tokens.start;
            int other = takeColumn();
            if (setup.typeOf(other) != type) {
                fail(MISMATCH, start);
            }
            return new Comparison(column, sign, Comparison.WITH_COLUMN, other);
        }

        private Condition readNested(int depth) {
            Compound not = new Compound(Compound.NOT);
            if (depth >= MOST_NESTED) {
                fail(TOO_DEEP, tokens.start);
                return not;
            }
            boolean isNot = tokens.kind == Tokens.NOT;
            tokens.advance();
            if (isNot) {
                not.parts.add(readFactor(depth + 1));
                return not;
            }
            Condition inner = readCondition(depth + 1);
            expectByte(')');
            return inner;
        }

        private char takeSign() {
            char sign = '=';
            if (tokens.kind == '<' || tokens.kind == '>') {
                sign = (char) tokens.kind;
            }
            expectByte(sign);
            return sign;
        }

        private int takeHole(int type) {
            int start = tokens.start;
            tokens.advance();
            int hole = takeNumber(HOLES - 1);
            if (hole >= 0 && hole < holeTypes.length) {
                if (holeTypes[hole] != NO_TYPE && holeTypes[hole] != type) {
                    fail(MISMATCH, start);
                }
                holeTypes[hole] = type;
            }
            return hole;
        }
    }
}
