import java.util.function.IntConsumer;

/** The boundary cases that the document's promises 1 to 24 name, in their order; each method quotes its sentences. */
public final class CallBoundsTest {
    private static final Class<IllegalArgumentException> ARGUMENT = Checks.ARGUMENT;
    private static final Class<IndexOutOfBoundsException> INDEX = Checks.INDEX;
    private static final Class<IllegalStateException> STATE = Checks.STATE;
    private static final String DAY = "table;column a day;";

    public static void main(String[] args) {
        newObject();
        appendFillsTheBuffer();
        appendTakesTheMostSignificantByteFirst();
        appendToAFullBuffer();
        loadLengths();
        loadReadsTheFirstBytes();
        loadEmptiesTheBuffer();
        loadReplacesAll();
        loadForgetsWhatRunsHaveLeft();
        errorOffsets();
        counts();
        columns();
        values();
        names();
        nameLengths();
        holes();
        statements();
        learnedOfAll();
        keptOfAll();
        genericCosts();
        specials();
        specialCosts();
        wouldUses();
        rowSets();
        runs();
        valuesOfHoles();
        inserts();
        insertsInFewColumns();
        insertsOfNoColumns();
        deletes();
        setIndexes();
        analyzes();
        checksums();
        Checks.end("CallBoundsTest");
    }

    private static void same(String what, long got, long due) {
        Checks.same(what, got, due);
    }

    private static final int[] OUTSIDE = {Integer.MIN_VALUE, Integer.MIN_VALUE + 1, -1000, -3, -2, -1};
    private static final int[] ABOVE = {0, 1, 2, 1000, Integer.MAX_VALUE - 100, Integer.MAX_VALUE - 50};

    /** The call refuses each index below 0, and from the bound on. */
    private static void outside(String what, Class<? extends RuntimeException> due, int bound, IntConsumer call) {
        for (int index : OUTSIDE) {
            Checks.fails(what + " of " + index, due, () -> call.accept(index));
        }
        for (int more : ABOVE) {
            Checks.fails(what + " of " + (bound + more), due, () -> call.accept(bound + more));
        }
    }

    /** "Creates an object without columns, rows and statements, with an empty input buffer." */
    private static void newObject() {
        for (int what = 0; what < 3; what++) {
            same("none of " + what, new PreparedPlans().count(what), 0);
        }
        Checks.fails("an empty buffer", ARGUMENT, () -> new PreparedPlans().load(1));
        Checks.fails("an empty buffer for a name", ARGUMENT, () -> new PreparedPlans().named(1));
        same("the first 20 bytes", new PreparedPlans().append(0, 0, 0, 0, 0), 20);
        same("nothing to load", new PreparedPlans().load(0), PreparedPlans.SYNTAX_ERROR);
        same("nothing to find", new PreparedPlans().named(0), -1);
        PreparedPlans first = Checks.loaded(Texts.SHOP);
        first.append(0, 0, 0, 0, 0);
        same("objects have nothing in common", new PreparedPlans().count(0), 0);
        same("nor a buffer", new PreparedPlans().append(0, 0, 0, 0, 0), 20);
    }

    /** "Returns the new length of the buffer; -1 if it would exceed 800 bytes" */
    private static void appendFillsTheBuffer() {
        PreparedPlans x = new PreparedPlans();
        for (int length = 20; length <= 800; length += 20) {
            same("length", x.append(0x20202020, 0x20202020, 0x20202020, 0x20202020, 0x20202020), length);
        }
        for (int i = 0; i < 3; i++) {
            same("more than 800", x.append(0, 0, 0, 0, 0), -1);
        }
        Checks.fails("801 bytes to load", ARGUMENT, () -> x.load(801));
        Checks.fails("820 bytes for a name", ARGUMENT, () -> x.named(820));
        same("800 bytes for a name", x.named(800), -1);
        same("empty again", x.append(0, 0, 0, 0, 0), 20);
    }

    /** "Appends 20 bytes to the input buffer: the 4 bytes of each argument, the most significant byte first." */
    private static void appendTakesTheMostSignificantByteFirst() {
        // "tabl" "e;co" "lumn" " abc" "defg" "h da" "y;pr" "epar" "e z " "abcd" "efgh" "=1; " and spaces
        PreparedPlans x = new PreparedPlans();
        same("20", x.append(0x7461626c, 0x653b636f, 0x6c756d6e, 0x20616263, 0x64656667), 20);
        same("40", x.append(0x68206461, 0x793b7072, 0x65706172, 0x65207a20, 0x61626364), 40);
        same("60", x.append(0x65666768, 0x3d313b20, 0x20202020, 0x20202020, 0x20202020), 60);
        same("read", x.load(60), 1);
        for (int place = 0; place < 20; place++) {
            int[] words = {0x20202020, 0x20202020, 0x20202020, 0x20202020, 0x20202020};
            words[place / 4] ^= (0x20 ^ 0xff) << 24 - place % 4 * 8;
            x.append(words[0], words[1], words[2], words[3], words[4]);
            same("a byte above 127", x.load(20), PreparedPlans.SYNTAX_ERROR);
            same("its place", x.errorOffset(), place);
        }
    }

    /** "and the buffer is unchanged then" */
    private static void appendToAFullBuffer() {
        PreparedPlans x = new PreparedPlans();
        Checks.put(x, "table;column a flag;" + " ".repeat(760) + "prepare p a = ? 0 ; ");
        same("full", x.append(-1, -1, -1, -1, -1), -1);
        same("full", x.append(0x20202020, 0x20202020, 0x20202020, 0x20202020, 0x20202020), -1);
        same("800 bytes as before", x.load(800), 1);
        same("the column", x.column(0, 0), 2);
        Checks.changesNothing("append to a full buffer", () -> {
            PreparedPlans full = new PreparedPlans();
            Checks.put(full, "table;" + " ".repeat(794));
            return full;
        }, full -> full.append(1, 2, 3, 4, 5));
    }

    /** "IllegalArgumentException if length is negative or greater than the length of the buffer; the buffer is unchanged then" */
    private static void loadLengths() {
        for (int length : new int[] {-1, -2, Integer.MIN_VALUE, 21, 22, 800, 801, Integer.MAX_VALUE}) {
            Checks.refuses("load(" + length + ")", ARGUMENT, Texts::used, x -> x.load(length));
        }
        Checks.refuses("load(1) of nothing", ARGUMENT, PreparedPlans::new, x -> x.load(1));
        Checks.refuses("load(-1) of nothing", ARGUMENT, PreparedPlans::new, x -> x.load(-1));
        PreparedPlans x = Texts.used();
        same("load of the whole buffer", x.load(20), 0);
        same("load of nothing", x.load(0), PreparedPlans.SYNTAX_ERROR);
        same("its error", x.errorOffset(), 0);
    }

    /** "Reads the first bytes of the input buffer": nothing behind them counts. */
    private static void loadReadsTheFirstBytes() {
        String text = "table;column a day;column b day;row 1 23;tries 12;";
        int[] lengths = {0, 5, 6, 7, 12, 13, 14, 15, 16, 18, 19, 32, 38, 39, 40, 41, 47, 48, 49, 50};
        int[] due = {-2, -2, 0, -2, -2, -2, -2, -2, -2, -2, 0, 0, -2, -2, -2, 0, -2, -2, -2, 0};
        int[] offsets = {0, 5, -1, 6, 12, 13, 14, 15, 15, 18, -1, -1, 38, 39, 40, -1, 47, 48, 49, -1};
        for (int i = 0; i < lengths.length; i++) {
            PreparedPlans x = new PreparedPlans();
            Checks.put(x, text);
            same("load of " + lengths[i], x.load(lengths[i]), due[i]);
            same("offset of " + lengths[i], x.errorOffset(), offsets[i]);
        }
        PreparedPlans x = new PreparedPlans();
        Checks.put(x, "table;tries 999;");
        same("a digit behind them", x.load(14), PreparedPlans.SYNTAX_ERROR);
        same("the end before it", x.errorOffset(), 14);
        Checks.put(x, "table;column abcdefghi day;");
        same("a letter behind them", x.load(21), PreparedPlans.SYNTAX_ERROR);
        same("the end before it", x.errorOffset(), 21);
        Checks.put(x, "table;tries 12;");
        same("zeros fill the last 20 bytes", x.load(20), PreparedPlans.SYNTAX_ERROR);
        same("the first of them", x.errorOffset(), 15);
    }

    /** "The input buffer is empty afterwards, also if the text has an error." */
    private static void loadEmptiesTheBuffer() {
        for (String text : new String[] {"table;", "table;x", "", "!"}) {
            for (int bytes : new int[] {0, 20, 780}) {
                PreparedPlans x = new PreparedPlans();
                Checks.put(x, text + " ".repeat(bytes));
                x.load(text.length());
                Checks.fails("nothing more to load", ARGUMENT, () -> x.load(1));
                same("a new buffer", x.append(0x7461626c, 0x653b2020, 0x20202020, 0x20202020, 0x20202020), 20);
                same("that is read alone", x.load(20), 0);
            }
        }
        PreparedPlans x = Checks.loaded("table;column a day;row 1;row 2;prepare p a=1;");
        same("a shorter text after a longer one", Checks.load(x, "table;column a"), PreparedPlans.SYNTAX_ERROR);
        same("its end", x.errorOffset(), 14);
    }

    /** "replaces all data by what it describes"; "An error leaves all other data unchanged. An empty text has a SYNTAX_ERROR." */
    private static void loadReplacesAll() {
        String[] texts = {"table;", DAY, Texts.SHOP, Texts.TABLE + "prepare p a=?0;", "table;cost 7 8 9;", "table;tries 0;",
            Texts.columns(5, "flag") + "index e;row 1 1 1 1 1;" + Texts.prepares(6, "e=?3")};
        for (String text : texts) {
            for (PreparedPlans x : new PreparedPlans[] {new PreparedPlans(), Texts.full(), Texts.used(), Checks.loaded(texts[6])}) {
                x.named(0);
                long before = x.checksum();
                same("an error", Checks.load(x, text + "!"), PreparedPlans.SYNTAX_ERROR);
                same("unchanged", x.checksum(), before);
                same("an empty text", x.load(0), PreparedPlans.SYNTAX_ERROR);
                same("unchanged by it", x.checksum(), before);
                same("a text of a space", Checks.load(x, " "), PreparedPlans.SYNTAX_ERROR);
                same("statements of " + text, Checks.load(x, text), Checks.loaded(text).count(2));
                same("all of " + text, x.checksum(), Checks.loaded(text).checksum());
            }
        }
    }

    private static void loadForgetsWhatRunsHaveLeft() {
        String text = Texts.columns(5, "day") + "index e;row 1 1 1 1 1;" + Texts.prepares(6, "e=?0") + "cost 9 0 1;tries 1;";
        PreparedPlans x = Checks.loaded(text);
        for (int i = 0; i < 60; i++) {
            x.run(i % 6, i < 12 ? 1 : 2, 0, 0, 0);
            if (i % 12 == 11) {
                x.analyze();
            }
        }
        for (int statement = 0; statement < 6; statement++) {
            same("10 runs", x.statement(statement, 0), 10);
            Checks.is("costs", x.statement(statement, 2) > 0);
            Checks.is("generic plans", x.statement(statement, 3) > 1);
            Checks.is("touched", x.statement(statement, 5) > 0);
            Checks.is("learned", x.learned(statement, 4) < 50);
            same("kept", x.kept(statement), 4);
        }
        same("a version", x.count(3), 5);
        for (int i = 0; i < 12; i++) {
            same("load again", Checks.load(x, text), 6);
            same("all is as in a new object", x.checksum(), Checks.loaded(text).checksum());
            for (int statement = 0; statement < 6; statement++) {
                same("learned", x.learned(statement, 4), 100);
                same("none kept", x.kept(statement), -2);
                same("no runs", x.statement(statement, 0), 0);
                same("a try", x.wouldUse(statement, 1, 0, 0, 0), 10);
            }
        }
    }

    /** "the offset of the error found by the latest call of load that did not throw; -1 if it found none or if there was no such call" */
    private static void errorOffsets() {
        PreparedPlans x = new PreparedPlans();
        same("no call", x.errorOffset(), -1);
        Checks.fails("a call that throws", ARGUMENT, () -> x.load(1));
        same("no call that did not throw", x.errorOffset(), -1);
        Checks.load(x, "table;table;");
        same("an error", x.errorOffset(), 6);
        Checks.fails("a call that throws", ARGUMENT, () -> x.load(-1));
        same("the error before it", x.errorOffset(), 6);
        x.load(0);
        same("an empty text", x.errorOffset(), 0);
        Checks.load(x, DAY);
        same("no error", x.errorOffset(), -1);
        Checks.load(x, "table" + " ".repeat(795));
        same("the greatest", x.errorOffset(), 800);
        Checks.load(x, "tablet;");
        same("the least", x.errorOffset(), 0);
        Checks.load(x, "table;");
        Checks.fails("a call that throws", ARGUMENT, () -> x.load(1));
        same("none before it", x.errorOffset(), -1);
        Checks.load(x, "table;x");
        Checks.named(x, "p");
        x.analyze();
        same("other calls leave it", x.errorOffset(), 6);
    }

    /** "what: 0 columns, (..) 8 the number of rows in the statistics"; "IllegalArgumentException if what is out of range" */
    private static void counts() {
        int[] due = {0, 1, 2, 3, 4, 5, 6, 7, 8};
        PreparedPlans x = Checks.loaded("table;column a day;column b day;row 1 1;prepare p a=1;cost 14 15 16;tries 17;");
        for (int i = 0; i < 3; i++) {
            x.insert(1, 1, 0, 0, 0);
            x.analyze();
        }
        x.delete(0);
        int[] is = {2, 3, 1, 3, 14, 15, 16, 17, 4};
        for (int what : due) {
            same("count(" + what + ")", x.count(what), is[what]);
        }
        outside("count", ARGUMENT, 9, x::count);
        outside("count of a new object", ARGUMENT, 9, new PreparedPlans()::count);
        Checks.refuses("count(9)", ARGUMENT, Texts::used, y -> y.count(9));
        Checks.refuses("count(-1)", ARGUMENT, Texts::used, y -> y.count(-1));
    }

    /** "IndexOutOfBoundsException if there is no such column"; "IllegalArgumentException if what is out of range" */
    private static void columns() {
        for (int count = 1; count <= 5; count++) {
            PreparedPlans x = Checks.loaded(Texts.columns(count, "flag"));
            outside("column", INDEX, count, column -> x.column(column, 0));
            outside("column, and what too", INDEX, count, column -> x.column(column, 5));
            int last = count - 1;
            outside("what", ARGUMENT, 5, what -> x.column(last, what));
            outside("what of the first", ARGUMENT, 5, what -> x.column(0, what));
            for (int what = 0; what < 5; what++) {
                same("the last column", x.column(last, what), what == 0 ? 2 : 0);
            }
        }
        outside("column of a new object", INDEX, 0, column -> new PreparedPlans().column(column, -1));
        Checks.refuses("column(3, 0)", INDEX, Texts::used, x -> x.column(3, 0));
        Checks.refuses("column(0, 5)", ARGUMENT, Texts::used, x -> x.column(0, 5));
    }

    /** "IndexOutOfBoundsException if there is no such row or column" */
    private static void values() {
        PreparedPlans x = Texts.used();
        outside("row", INDEX, 4, row -> x.value(row, 0));
        outside("column", INDEX, 3, column -> x.value(0, column));
        outside("both", INDEX, 4, both -> x.value(both, both));
        same("the last one", x.value(3, 2), 0);
        same("the first one", x.value(0, 0), 10);
        PreparedPlans none = Checks.loaded(DAY);
        outside("no rows", INDEX, 0, row -> none.value(row, 0));
        PreparedPlans full = Texts.full();
        outside("40 rows", INDEX, 40, row -> full.value(row, 0));
        same("row 39", full.value(39, 0), 39);
        full.delete(39);
        Checks.fails("row 39 is deleted", INDEX, () -> full.value(39, 0));
        Checks.refuses("value(4, 0)", INDEX, Texts::used, y -> y.value(4, 0));
        Checks.refuses("value(0, 3)", INDEX, Texts::used, y -> y.value(0, 3));
    }

    /** "Finds a statement by its name, which is just the first bytes of the input buffer, without any spaces."; "-1 if there is none" */
    private static void names() {
        String table = DAY + "prepare k a=1;prepare kk a=1;prepare abcdefgh a=1;prepare abcdefg a=1;prepare bcdefgh a=1;prepare a a=1;";
        PreparedPlans x = Checks.loaded(table);
        String[] names = {"k", "kk", "abcdefgh", "abcdefg", "bcdefgh", "a"};
        for (int i = 0; i < names.length; i++) {
            same("named " + names[i], Checks.named(x, names[i]), i);
        }
        String[] others = {"", " ", "kkk", " k", "k ", "k k", "kk;", "K", "j", "l", "abcdef", "abcdefgi", "abcdefghi", "aabcdefgh", "abcdefghabcdefgh",
            "\u0000k", "k\u0000", "k1", "1", "or", "and", "not", "table", "b", "`", "`k", "aK", "{", "\u00eb"};
        for (String name : others) {
            same("named " + name, Checks.named(x, name), -1);
        }
        for (int b = 0; b < 256; b++) {
            same("named by byte " + b, Checks.named(x, "" + (char) b), b == 'k' ? 0 : b == 'a' ? 5 : -1);
            same("named k and byte " + b, Checks.named(x, "k" + (char) b), b == 'k' ? 1 : -1);
        }
        same("without statements", Checks.named(Checks.loaded(DAY), "a"), -1);
        same("in a new object", Checks.named(new PreparedPlans(), ""), -1);
        Checks.load(x, DAY + "prepare z a=1;");
        same("one of the older text", Checks.named(x, "k"), -1);
        x.undo();
        same("again after undo", Checks.named(x, "k"), 0);
    }

    /** "The input buffer is empty afterwards."; "IllegalArgumentException if length is negative or greater (..); the buffer is unchanged then" */
    private static void nameLengths() {
        for (int length : new int[] {-1, -2, Integer.MIN_VALUE, 21, 22, 800, 801, Integer.MAX_VALUE}) {
            Checks.refuses("named(" + length + ")", ARGUMENT, Texts::used, x -> x.named(length));
        }
        Checks.refuses("named(1) of nothing", ARGUMENT, PreparedPlans::new, x -> x.named(1));
        PreparedPlans x = Checks.loaded(DAY + "prepare k a=1;prepare kk a=1;prepare kkkkkkkk a=1;");
        int[] due = {-1, 0, 1, -1, -1, -1, -1, -1, 2, -1, -1};
        for (int length = 0; length < due.length; length++) {
            Checks.put(x, "k".repeat(20));
            same(length + " letters", x.named(length), due[length]);
            Checks.fails("the buffer is empty", ARGUMENT, () -> x.named(1));
            Checks.fails("the buffer is empty", ARGUMENT, () -> x.load(1));
        }
        Checks.put(x, "k".repeat(800));
        same("all 800 letters", x.named(800), -1);
        same("empty", x.append(0, 0, 0, 0, 0), 20);
    }

    /** "Returns the type of this hole (0 to 2); -1 if the condition does not have it." */
    private static void holes() {
        PreparedPlans x = Checks.loaded(Texts.TABLE + "prepare p a=1;prepare q b=?0;prepare r not c=?3 or (a=?1 and b=?2);");
        int[][] due = {{-1, -1, -1, -1}, {1, -1, -1, -1}, {-1, 0, 1, 2}};
        for (int statement = 0; statement < 3; statement++) {
            int s = statement;
            for (int hole = 0; hole < 4; hole++) {
                same("hole(" + s + ", " + hole + ")", x.hole(s, hole), due[s][hole]);
            }
            outside("hole of " + s, ARGUMENT, 4, hole -> x.hole(s, hole));
        }
        outside("statement", INDEX, 3, statement -> x.hole(statement, 0));
        outside("statement, and hole too", INDEX, 3, statement -> x.hole(statement, 4));
        outside("statement, and hole too", INDEX, 3, statement -> x.hole(statement, -1));
        Checks.refuses("hole(2, 0)", INDEX, Texts::used, y -> y.hole(2, 0));
        Checks.refuses("hole(0, 4)", ARGUMENT, Texts::used, y -> y.hole(0, 4));
    }

    /** "what: 0 its runs, (..) 5 the sum of the numbers of rows that its runs touched" */
    private static void statements() {
        PreparedPlans x = Checks.loaded("table;column a day;index a;" + Texts.rows(1, 1, 2) + "prepare p a=?0;prepare q a=1;cost 9 1 1;tries 1;");
        int[][] due = {{0, 0, 0, 0, 0, 0}, {1, 1, 3, 0, 0, 2}, {2, 1, 3, 1, 1, 4}, {2, 1, 3, 1, 2, 4}, {3, 1, 3, 2, 1, 5}};
        for (int when = 0; when < due.length; when++) {
            for (int what = 0; what < 6; what++) {
                same("statement(0, " + what + ") at " + when, x.statement(0, what), due[when][what]);
                same("another one", x.statement(1, what), 0);
            }
            if (when == 2) {
                x.analyze();
            } else {
                x.run(0, when < 3 ? 1 : 2, 0, 0, 0);
            }
        }
        outside("statement", INDEX, 2, statement -> x.statement(statement, 0));
        outside("statement, and what too", INDEX, 2, statement -> x.statement(statement, 6));
        outside("statement, and what too", INDEX, 2, statement -> x.statement(statement, -1));
        outside("what", ARGUMENT, 6, what -> x.statement(0, what));
        outside("what", ARGUMENT, 6, what -> x.statement(1, what));
        Checks.refuses("statement(2, 0)", INDEX, Texts::used, y -> y.statement(2, 0));
        Checks.refuses("statement(0, 6)", ARGUMENT, Texts::used, y -> y.statement(0, 6));
    }

    /** "IndexOutOfBoundsException if there is no such statement or column" */
    private static void learnedOfAll() {
        PreparedPlans x = Checks.loaded(Texts.columns(5, "day") + "index e;row 1 1 1 1 1;" + Texts.prepares(6, "e=?0") + "cost 9 0 1;");
        x.run(5, 2, 0, 0, 0);
        for (int statement = 0; statement < 6; statement++) {
            for (int column = 0; column < 5; column++) {
                same("learned(" + statement + ", " + column + ")", x.learned(statement, column), statement == 5 && column == 4 ? 75 : 100);
            }
        }
        outside("statement", INDEX, 6, statement -> x.learned(statement, 0));
        outside("column", INDEX, 5, column -> x.learned(0, column));
        outside("both", INDEX, 6, both -> x.learned(both, both));
        Checks.refuses("learned(2, 0)", INDEX, Texts::used, y -> y.learned(2, 0));
        Checks.refuses("learned(0, 3)", INDEX, Texts::used, y -> y.learned(0, 3));
    }

    /** "Returns the generic plan that it keeps, stale or not; -2 if it keeps none." */
    private static void keptOfAll() {
        PreparedPlans x = Checks.loaded(Texts.columns(5, "day") + "index a;index e;row 1 1 1 1 1;row 1 1 1 1 1;"
                + "prepare p e=1;prepare q a=1;prepare r b=1;prepare s a=1;cost 9 0 1;tries 0;");
        int[] due = {4, 0, -1, -2};
        for (int i = 0; i < 3; i++) {
            same("none", x.kept(i), -2);
            x.run(i, 0, 0, 0, 0);
        }
        for (int i = 0; i < 4; i++) {
            same("kept(" + i + ")", x.kept(i), due[i]);
        }
        x.setIndex(4, false);
        x.setIndex(0, false);
        for (int i = 0; i < 4; i++) {
            same("stale kept(" + i + ")", x.kept(i), due[i]);
        }
        x.run(0, 0, 0, 0, 0);
        same("made anew", x.kept(0), -1);
        outside("kept", INDEX, 4, x::kept);
        outside("kept of a new object", INDEX, 0, new PreparedPlans()::kept);
        Checks.refuses("kept(2)", INDEX, Texts::used, y -> y.kept(2));
    }

    /** "-1 if the statement does not have this plan."; "IllegalArgumentException if plan is less than -1, or not -1 and not a column" */
    private static void genericCosts() {
        for (int count = 1; count <= 5; count++) {
            PreparedPlans x = Checks.loaded(Texts.columns(count, "day") + "prepare p a=1;");
            same("the scan", x.genericCost(0, -1), 0);
            for (int column = 0; column < count; column++) {
                same("no index of " + column, x.genericCost(0, column), -1);
            }
            outsideOfPlans("plan of " + count, ARGUMENT, count, plan -> x.genericCost(0, plan));
            outside("statement", INDEX, 1, statement -> x.genericCost(statement, -1));
            outside("statement, and plan too", INDEX, 1, statement -> x.genericCost(statement, 5));
            outside("statement, and plan too", INDEX, 1, statement -> x.genericCost(statement, -2));
        }
        Checks.refuses("genericCost(2, 0)", INDEX, Texts::used, y -> y.genericCost(2, 0));
        Checks.refuses("genericCost(0, 3)", ARGUMENT, Texts::used, y -> y.genericCost(0, 3));
        Checks.refuses("genericCost(0, -2)", ARGUMENT, Texts::used, y -> y.genericCost(0, -2));
    }

    private static void outsideOfPlans(String what, Class<? extends RuntimeException> due, int columns, IntConsumer call) {
        outside(what, due, columns, plan -> call.accept(plan < 0 ? plan == Integer.MIN_VALUE ? plan : plan - 1 : plan));
    }

    private static void specials() {
        PreparedPlans x = Checks.loaded(Texts.SHOP);
        outside("special", INDEX, 2, statement -> x.special(statement, 0, 0, 0, 0));
        outside("special, and values too", INDEX, 2, statement -> x.special(statement, -1, -1, 10000, 10000));
        Checks.refuses("special(2, ..)", INDEX, Texts::used, y -> y.special(2, 0, 0, 0, 0));
        Checks.refuses("special with a wrong value", ARGUMENT, Texts::used, y -> y.special(0, 10000, 0, 0, 0));
        same("the special plan, also where a run would use a generic one", Texts.used().special(1, 0, 9, 0, 1), -1);
        // the generic plan is a scan for 3 against 1 + 3, the special one outside of the statistics costs 1
        PreparedPlans y = Checks.loaded("table;column a day;index a;" + Texts.rows(1, 1, 1) + "prepare p a=?0;cost 1 1 1;tries 0;");
        same("generic", y.wouldUse(0, 2, 0, 0, 0), 1);
        same("special", y.special(0, 2, 0, 0, 0), 0);
        same("special inside", y.special(0, 1, 0, 0, 0), -1);
    }

    /** "IllegalArgumentException if plan is less than -1, or not -1 and not a column, or if a value is not allowed (as in special)" */
    private static void specialCosts() {
        PreparedPlans x = Checks.loaded(Texts.SHOP);
        outside("statement", INDEX, 2, statement -> x.specialCost(statement, -1, 0, 0, 0, 0));
        outside("statement, and plan too", INDEX, 2, statement -> x.specialCost(statement, 3, 0, 0, 0, 0));
        outside("statement, and values too", INDEX, 2, statement -> x.specialCost(statement, 0, -1, 0, 0, 0));
        outsideOfPlans("plan", ARGUMENT, 3, plan -> x.specialCost(0, plan, 0, 0, 0, 0));
        outsideOfPlans("plan, and value too", ARGUMENT, 3, plan -> x.specialCost(0, plan, -1, 0, 0, 0));
        same("the scan", x.specialCost(0, -1, 0, 0, 0, 0), 4);
        same("the last column", x.specialCost(0, 2, 0, 0, 0, 0), -1);
        Checks.fails("a value, where there is no such plan of the statement", ARGUMENT, () -> x.specialCost(0, 2, 10000, 0, 0, 0));
        Checks.fails("a value for the scan", ARGUMENT, () -> x.specialCost(0, -1, 10000, 0, 0, 0));
        Checks.fails("a value for a hole that there is not", ARGUMENT, () -> x.specialCost(0, -1, 0, 1, 0, 0));
        Checks.refuses("specialCost(2, ..)", INDEX, Texts::used, y -> y.specialCost(2, 0, 0, 0, 0, 0));
        Checks.refuses("specialCost(0, 3, ..)", ARGUMENT, Texts::used, y -> y.specialCost(0, 3, 0, 0, 0, 0));
        Checks.refuses("specialCost(0, -2, ..)", ARGUMENT, Texts::used, y -> y.specialCost(0, -2, 0, 0, 0, 0));
        Checks.refuses("specialCost with a wrong value", ARGUMENT, Texts::used, y -> y.specialCost(0, 0, -1, 0, 0, 0));
    }

    /** "Returns 2 * (the plan + 1), and 1 more if it would be a generic plan."; "Nothing changes." */
    private static void wouldUses() {
        String table = Texts.columns(5, "day");
        String rest = "row 1 1 1 1 1;row 1 1 1 1 1;prepare p a=1 and b=1 and c=1 and d=1 and e=1;cost 9 0 1;tries ";
        for (int column = -1; column < 5; column++) {
            String index = column < 0 ? "" : "index " + (char) ('a' + column) + ";";
            PreparedPlans special = Checks.loaded(table + index + rest + "1;");
            same("special " + column, special.wouldUse(0, 0, 0, 0, 0), 2 * column + 2);
            special.run(0, 0, 0, 0, 0);
            same("generic " + column, special.wouldUse(0, 0, 0, 0, 0), 2 * column + 3);
        }
        PreparedPlans x = Checks.loaded(Texts.SHOP);
        outside("wouldUse", INDEX, 2, statement -> x.wouldUse(statement, 0, 0, 0, 0));
        outside("wouldUse, and values too", INDEX, 2, statement -> x.wouldUse(statement, -1, -1, 10000, 10000));
        Checks.refuses("wouldUse(2, ..)", INDEX, Texts::used, y -> y.wouldUse(2, 0, 0, 0, 0));
        Checks.refuses("wouldUse with a wrong value", ARGUMENT, Texts::used, y -> y.wouldUse(0, 10000, 0, 0, 0));
        PreparedPlans stale = Texts.used();
        same("stale", stale.statement(1, 4), 2);
        for (int i = 0; i < 5; i++) {
            stale.wouldUse(1, 0, 0, 0, 0);
        }
        same("stale still", stale.statement(1, 4), 2);
        same("not made", stale.statement(1, 3), 1);
    }

    /** "Returns the set of the rows that a run with these values would find now: bit k for row k." */
    private static void rowSets() {
        PreparedPlans full = Texts.full();
        for (int row = 0; row < 40; row++) {
            same("row " + row, full.rows(0, row, 0, 0, 0), 1L << row);
        }
        same("none", full.rows(0, 40, 0, 0, 0), 0);
        same("all but the second", full.rows(1, 0, 1, 0, 0), (1L << 40) - 3);
        same("all", full.rows(1, 0, 0, 0, 0), (1L << 40) - 1);
        PreparedPlans empty = Checks.loaded(DAY + "prepare p not a=1;");
        same("without rows", empty.rows(0, 0, 0, 0, 0), 0);
        empty.insert(0, 0, 0, 0, 0);
        same("with one", empty.rows(0, 0, 0, 0, 0), 1);
        PreparedPlans x = Checks.loaded(Texts.SHOP);
        outside("rows", INDEX, 2, statement -> x.rows(statement, 0, 0, 0, 0));
        outside("rows, and values too", INDEX, 2, statement -> x.rows(statement, -1, -1, 10000, 10000));
        Checks.refuses("rows(2, ..)", INDEX, Texts::used, y -> y.rows(2, 0, 0, 0, 0));
        Checks.refuses("rows with a wrong value", ARGUMENT, Texts::used, y -> y.rows(0, -1, 0, 0, 0));
    }

    /** "Returns the number of rows that it found." */
    private static void runs() {
        PreparedPlans full = Texts.full();
        full.analyze();
        same("one", full.run(0, 39, 0, 0, 0), 1);
        same("none", full.run(0, 40, 0, 0, 0), 0);
        same("39", full.run(1, 0, 1, 0, 0), 39);
        same("all 40", full.run(1, 0, 0, 0, 0), 40);
        PreparedPlans empty = Checks.loaded(DAY + "prepare p not a=1;");
        same("without rows", empty.run(0, 0, 0, 0, 0), 0);
        PreparedPlans x = Checks.loaded(Texts.SHOP);
        outside("run", INDEX, 2, statement -> x.run(statement, 0, 0, 0, 0));
        outside("run, and values too", INDEX, 2, statement -> x.run(statement, -1, -1, 10000, 10000));
        same("none of these is a run", x.statement(0, 0), 0);
        Checks.refuses("run(2, ..)", INDEX, Texts::used, y -> y.run(2, 0, 0, 0, 0));
        Checks.refuses("run with a wrong value", ARGUMENT, Texts::used, y -> y.run(0, -1, 0, 0, 0));
    }

    private interface ValuesCall {
        void accept(PreparedPlans plans, int statement, int[] v);
    }

    /** "a value is out of the range of its hole's type, or not 0 for a hole that the condition does not have": in each of five methods. */
    private static void valuesOfHoles() {
        checkValues("special", (x, s, v) -> x.special(s, v[0], v[1], v[2], v[3]));
        checkValues("specialCost", (x, s, v) -> x.specialCost(s, -1, v[0], v[1], v[2], v[3]));
        checkValues("specialCost by a column", (x, s, v) -> x.specialCost(s, 2, v[0], v[1], v[2], v[3]));
        checkValues("wouldUse", (x, s, v) -> x.wouldUse(s, v[0], v[1], v[2], v[3]));
        checkValues("rows", (x, s, v) -> x.rows(s, v[0], v[1], v[2], v[3]));
        checkValues("run", (x, s, v) -> x.run(s, v[0], v[1], v[2], v[3]));
    }

    /** Statement 4 * type + hole has this hole alone, with this type; statement 0 of the second object has none. */
    private static void checkValues(String name, ValuesCall call) {
        String[] columns = {"a", "b", "c"};
        for (int type = 0; type < 3; type++) {
            int greatest = Texts.GREATEST[type];
            StringBuilder text = new StringBuilder(Texts.TABLE + "row 1 1 1;");
            for (int hole = 0; hole < 4; hole++) {
                text.append("prepare ").append((char) ('p' + hole)).append(' ').append(columns[type]).append("=?").append(hole).append(';');
            }
            PreparedPlans x = Checks.loaded(text.toString());
            for (int hole = 0; hole < 4; hole++) {
                for (int place = 0; place < 4; place++) {
                    int most = place == hole ? greatest : 0;
                    String what = name + " of type " + type + " and hole " + hole + " with ? " + place + " = ";
                    allowed(what + most, x, call, hole, place, most);
                    allowed(what + 0, x, call, hole, place, 0);
                    for (int value : new int[] {most + 1, -1, Integer.MAX_VALUE, Integer.MIN_VALUE, most + 10000, -most - 1}) {
                        refused(what + value, x, call, hole, place, value);
                    }
                }
            }
        }
        PreparedPlans none = Checks.loaded(Texts.TABLE + "prepare p a=1;");
        for (int place = 0; place < 4; place++) {
            allowed(name + " without holes", none, call, 0, place, 0);
            refused(name + " without holes", none, call, 0, place, 1);
            refused(name + " without holes", none, call, 0, place, -1);
        }
    }

    private static void allowed(String what, PreparedPlans x, ValuesCall call, int statement, int place, int value) {
        int[] v = {0, 0, 0, 0};
        v[place] = value;
        Checks.fails(what, null, () -> call.accept(x, statement, v));
    }

    private static void refused(String what, PreparedPlans x, ValuesCall call, int statement, int place, int value) {
        int[] v = {0, 0, 0, 0};
        v[place] = value;
        long before = x.checksum();
        Checks.fails(what, ARGUMENT, () -> call.accept(x, statement, v));
        same(what + " changes nothing", x.checksum(), before);
    }

    /** "IllegalArgumentException if a value is out of the range of its column's type"; "IllegalStateException if (..) there are 40 rows" */
    private static void inserts() {
        String[] types = {"number", "day", "flag", "day", "number"};
        int[] greatest = {9999, 999, 1, 999, 9999};
        StringBuilder text = new StringBuilder("table;");
        for (int i = 0; i < 5; i++) {
            text.append("column ").append((char) ('a' + i)).append(' ').append(types[i]).append(';');
        }
        PreparedPlans x = Checks.loaded(text.toString());
        same("the least of all", x.insert(0, 0, 0, 0, 0), 1);
        same("the greatest of all", x.insert(9999, 999, 1, 999, 9999), 2);
        for (int i = 0; i < 5; i++) {
            same("the greatest", x.value(1, i), greatest[i]);
            int column = i;
            for (int value : new int[] {-1, greatest[i] + 1, Integer.MIN_VALUE, Integer.MAX_VALUE}) {
                Checks.refuses("insert of " + value + " in " + i, ARGUMENT, () -> Checks.loaded(text.toString()), y -> insert(y, column, value));
            }
        }
        for (int rows = 3; rows <= 40; rows++) {
            same("rows", x.insert(0, 0, 0, 0, rows), rows);
        }
        Checks.fails("41 rows", STATE, () -> x.insert(0, 0, 0, 0, 0));
        Checks.fails("41 rows, with a wrong value", ARGUMENT, () -> x.insert(0, 0, 0, 0, -1));
        same("40 rows", x.count(1), 40);
        same("the statistics stay", x.count(8), 0);
        Checks.refuses("insert of a 41st row", STATE, Texts::full, y -> y.insert(0, 0, 0, 0, 0));
        Checks.refuses("insert of a wrong 41st row", ARGUMENT, Texts::full, y -> y.insert(0, 0, 0, 0, 1));
    }

    private static void insert(PreparedPlans x, int column, int value) {
        int[] v = {0, 0, 0, 0, 0};
        v[column] = value;
        x.insert(v[0], v[1], v[2], v[3], v[4]);
    }

    /** "a parameter for a column that there is not must be 0" */
    private static void insertsInFewColumns() {
        for (int count = 1; count <= 5; count++) {
            PreparedPlans x = Checks.loaded(Texts.columns(count, "flag"));
            for (int column = 0; column < 5; column++) {
                int place = column;
                if (column < count) {
                    insert(x, column, 1);
                } else {
                    Checks.fails("no column " + column, ARGUMENT, () -> insert(x, place, 1));
                    Checks.fails("no column " + column, ARGUMENT, () -> insert(x, place, -1));
                }
            }
            same("a row for each column", x.count(1), count);
            for (int row = 0; row < count; row++) {
                for (int column = 0; column < count; column++) {
                    same("value", x.value(row, column), row == column ? 1 : 0);
                }
            }
        }
    }

    /** "IllegalStateException if there are no columns" */
    private static void insertsOfNoColumns() {
        Checks.refuses("insert in a new object", STATE, PreparedPlans::new, x -> x.insert(0, 0, 0, 0, 0));
        Checks.refuses("insert in a table without columns", STATE, () -> Checks.loaded("table;"), x -> x.insert(0, 0, 0, 0, 0));
        for (int column = 0; column < 5; column++) {
            int place = column;
            Checks.refuses("insert of 1", ARGUMENT, PreparedPlans::new, x -> insert(x, place, 1));
            Checks.refuses("insert of -1", ARGUMENT, () -> Checks.loaded("table;"), x -> insert(x, place, -1));
        }
    }

    /** "Returns the number of rows then."; "IndexOutOfBoundsException if there is no such row" */
    private static void deletes() {
        PreparedPlans x = Texts.full();
        outside("delete", INDEX, 40, x::delete);
        for (int left = 39; left >= 0; left--) {
            same("delete", x.delete(left % 3 == 0 ? 0 : left), left);
            same("rows", x.count(1), left);
            int behind = left;
            Checks.fails("the row behind", INDEX, () -> x.delete(behind));
        }
        outside("delete of none", INDEX, 0, x::delete);
        same("the statistics stay", x.count(8), 0);
        same("insert", x.insert(3, 0, 0, 0, 0), 1);
        same("delete the only one", x.delete(0), 0);
        Checks.refuses("delete(4)", INDEX, Texts::used, y -> y.delete(4));
        Checks.refuses("delete(-1)", INDEX, Texts::used, y -> y.delete(-1));
        Checks.refuses("delete(0) in a new object", INDEX, PreparedPlans::new, y -> y.delete(0));
        PreparedPlans statistics = Checks.loaded(DAY + Texts.rows(3, 4));
        statistics.delete(0);
        same("rows in the statistics", statistics.count(8), 2);
        same("the least", statistics.column(0, 3), 3);
        same("the version", statistics.count(3), 0);
    }

    /** "Returns whether this changes something." */
    private static void setIndexes() {
        for (int count = 1; count <= 5; count++) {
            PreparedPlans x = Checks.loaded(Texts.columns(count, "day"));
            int last = count - 1;
            Checks.is("not taken", !x.setIndex(last, false));
            Checks.is("given", x.setIndex(last, true));
            Checks.is("not given again", !x.setIndex(last, true));
            for (int column = 0; column < count; column++) {
                same("index of " + column, x.column(column, 1), column == last ? 1 : 0);
            }
            Checks.is("taken", x.setIndex(last, false));
            Checks.is("not taken again", !x.setIndex(last, false));
            same("two versions", x.count(3), 2);
            outside("setIndex", INDEX, count, column -> x.setIndex(column, true));
            outside("setIndex", INDEX, count, column -> x.setIndex(column, false));
        }
        Checks.refuses("setIndex(3, true)", INDEX, Texts::used, x -> x.setIndex(3, true));
        Checks.refuses("setIndex(-1, false)", INDEX, Texts::used, x -> x.setIndex(-1, false));
        Checks.refuses("setIndex in a new object", INDEX, PreparedPlans::new, x -> x.setIndex(0, false));
        PreparedPlans text = Checks.loaded(Texts.SHOP);
        Checks.is("an index of the text is there", !text.setIndex(0, true));
        Checks.is("none of the text is not", !text.setIndex(2, false));
    }

    /** "Takes the statistics anew. @return the version then" */
    private static void analyzes() {
        PreparedPlans x = new PreparedPlans();
        for (int version = 1; version <= 20; version++) {
            same("version", x.analyze(), version);
        }
        PreparedPlans full = Texts.full();
        same("a full table", full.analyze(), 1);
        same("40 rows", full.count(8), 40);
        for (int i = 0; i < 40; i++) {
            full.delete(0);
        }
        same("an empty one", full.analyze(), 2);
        same("no rows", full.count(8), 0);
        for (int what = 2; what < 5; what++) {
            same("0 without rows", full.column(0, what), 0);
        }
    }

    private static long add(long before, int... numbers) {
        long sum = before;
        for (int number : numbers) {
            sum = 31 * sum + number;
        }
        return sum;
    }

    /** "It starts at 0; each number n in the following order replaces it by 31 * checksum + n, wrapping around on overflow of a long" */
    private static void checksums() {
        same("a new object", new PreparedPlans().checksum(), add(0, 0, 0, 0, 0, 1, 3, 2, 3, 0));
        PreparedPlans[] all = {new PreparedPlans(), Texts.used(), Texts.full(), Checks.loaded(DAY),
            Checks.loaded(Texts.columns(5, "flag") + "index b;row 1 0 1 0 1;" + Texts.prepares(6, "b=?1 and c=?2") + "tries 0;")};
        all[4].run(5, 0, 1, 1, 0);
        for (PreparedPlans x : all) {
            long sum = 0;
            for (int what = 0; what <= 8; what++) {
                sum = add(sum, x.count(what));
            }
            for (int column = 0; column < x.count(0); column++) {
                for (int what = 0; what <= 4; what++) {
                    sum = add(sum, x.column(column, what));
                }
            }
            for (int row = 0; row < x.count(1); row++) {
                for (int column = 0; column < x.count(0); column++) {
                    sum = add(sum, x.value(row, column));
                }
            }
            for (int s = 0; s < x.count(2); s++) {
                for (int what = 0; what <= 5; what++) {
                    sum = add(sum, x.statement(s, what));
                }
                sum = add(sum, x.kept(s), x.hole(s, 0), x.hole(s, 1), x.hole(s, 2), x.hole(s, 3));
                for (int column = 0; column < x.count(0); column++) {
                    sum = add(sum, x.learned(s, column));
                }
            }
            same("checksum", x.checksum(), sum);
            same("the same again", x.checksum(), sum);
        }
    }
}
