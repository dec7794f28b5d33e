/** A method for each promise of the document: ordinary inputs, the edges that it names, and wrong inputs. */
public final class PromisesTest {
    private static final Class<IllegalArgumentException> ARGUMENT = Checks.ARGUMENT;
    private static final Class<IndexOutOfBoundsException> INDEX = Checks.INDEX;
    private static final Class<IllegalStateException> STATE = Checks.STATE;

    private static final String TABLE = Texts.TABLE;
    private static final String SHOP = Texts.SHOP;

    public static void main(String[] args) {
        promise1NewObject();
        promise2Append();
        promise3Load();
        promise3SyntaxErrors();
        promise3OtherErrors();
        promise3Limits();
        promise4ErrorOffset();
        promise5Count();
        promise6Column();
        promise7Value();
        promise8Named();
        promise9Hole();
        promise10Statement();
        promise11Learned();
        promise12Kept();
        promise13GenericCost();
        promise13Sargable();
        promise14Special();
        promise15SpecialCost();
        promise16WouldUse();
        promise17Rows();
        promise18Run();
        promise19Insert();
        promise20Delete();
        promise21SetIndex();
        promise22Analyze();
        promise23Undo();
        promise24Checksum();
        constants();
        greatArguments();
        Checks.end("PromisesTest");
    }

    private static void same(String what, long got, long due) {
        Checks.same(what, got, due);
    }

    private static void fails(String what, Class<? extends RuntimeException> due, Runnable call) {
        Checks.fails(what, due, call);
    }

    private static void promise1NewObject() {
        PreparedPlans x = new PreparedPlans();
        int[] due = {0, 0, 0, 0, 1, 3, 2, 3, 0};
        for (int what = 0; what < due.length; what++) {
            same("new count(" + what + ")", x.count(what), due[what]);
        }
        same("new errorOffset", x.errorOffset(), -1);
        same("new undo", x.undo(), -1);
        same("new checksum", x.checksum(), checksumOf(0, due));
        same("new buffer", x.append(0, 0, 0, 0, 0), 20);
        fails("new column", INDEX, () -> x.column(0, 0));
        fails("new statement", INDEX, () -> x.statement(0, 0));
        fails("new delete", INDEX, () -> x.delete(0));
        fails("new load(1) of 0", ARGUMENT, () -> new PreparedPlans().load(1));
    }

    private static long checksumOf(long before, int... numbers) {
        long sum = before;
        for (int number : numbers) {
            sum = 31 * sum + number;
        }
        return sum;
    }

    private static void promise2Append() {
        PreparedPlans x = new PreparedPlans();
        same("first byte first", x.append(0x7461626c, 0x653b2020, 0x20202020, 0x20202020, 0x20202020), 20);
        same("load of it", x.load(20), 0);
        same("emptied", x.append(-1, -1, -1, -1, -1), 20);
        fails("load above it", ARGUMENT, () -> x.load(21));
        same("bytes above 127", x.load(20), PreparedPlans.SYNTAX_ERROR);
        for (int i = 1; i <= 40; i++) {
            same("append " + i, x.append(0x20202020, 0x20202020, 0x20202020, 0x20202020, 0x20202020), 20 * i);
        }
        same("append 41", x.append(1, 1, 1, 1, 1), -1);
        fails("801 bytes", ARGUMENT, () -> x.load(801));
        same("800 bytes unchanged", x.load(800), PreparedPlans.SYNTAX_ERROR);
        same("the end of 800", x.errorOffset(), 800);
        same("room again", x.append(1, 1, 1, 1, 1), 20);
    }

    private static void promise3Load() {
        same("load SHOP", Checks.load(new PreparedPlans(), SHOP), 2);
        same("least", Checks.load(new PreparedPlans(), "table;"), 0);
        same("spaces", Checks.load(new PreparedPlans(), "  table  ;  column  a  flag  ;  prepare p not ( a = ? 0 )  ;  "), 1);
        same("no spaces", Checks.load(new PreparedPlans(), "table;column a day;row7;prepare p a=1or a=2and a<?0;cost1 2 3;tries4;"), 1);
        same("first and last letters", Checks.load(new PreparedPlans(), "table;column azazazaz day;prepare zzzzzzzz azazazaz=?0;"), 1);
        same("words as names", Checks.load(new PreparedPlans(),
                "table;column column number;column day day;index day;row 1 2;prepare tries day=1 and column=2;tries 1;"), 1);
        same("long numbers", Checks.load(new PreparedPlans(), "table;column a day;row 0000000000000999;prepare p a=?0003;tries 00099;"), 1);
        PreparedPlans x = Checks.loaded(SHOP);
        x.insert(1, 1, 1, 0, 0);
        x.run(0, 0, 0, 0, 0);
        x.analyze();
        long before = x.checksum();
        same("error", Checks.load(x, "table;colum"), PreparedPlans.SYNTAX_ERROR);
        same("unchanged by an error", x.checksum(), before);
        Checks.load(x, SHOP);
        same("after an error a new text starts anew", x.checksum(), Checks.loaded(SHOP).checksum());
        same("without an index", bit(Checks.load(x, TABLE) == 0 && x.column(0, 1) == 0), 1);
        x.undo();
        x.undo();
        same("back again", x.checksum(), before);
        same("emptied by an error", x.append(0, 0, 0, 0, 0), 20);
        fails("negative length", ARGUMENT, () -> x.load(-1));
        fails("length 21 of 20", ARGUMENT, () -> x.load(21));
        same("buffer kept by an exception", x.append(0, 0, 0, 0, 0), 40);
        x.load(0);
        same("load again", Checks.load(x, SHOP), 2);
        same("version is 0 again", x.count(3), 0);
        same("rows are replaced", x.count(1), 4);
        same("statement is new", x.checksum(), Checks.loaded(SHOP).checksum());
        Checks.put(x, "table;column a day;");
        same("first bytes alone", x.load(6), 0);
        same("first bytes alone, columns", x.count(0), 0);
    }

    /** The error that is due where ^ stands (which is not part of the text). */
    private static void error(int due, String marked) {
        Checks.error(due, marked);
    }

    private static void promise3SyntaxErrors() {
        int due = PreparedPlans.SYNTAX_ERROR;
        error(due, "^");
        error(due, "   ^");
        error(due, "^tables;");
        error(due, "^column a day;");
        error(due, "table^");
        error(due, "table  ^");
        error(due, "table;^;");
        error(due, "table;^table;");
        error(due, "table;column ^or day;");
        error(due, "table;column ^and day;");
        error(due, "table;column ^not day;");
        error(due, "table;column ^abcdefghi day;");
        error(due, "table;column ^1 day;");
        error(due, "table;column ^zzzzzzzzz day;");
        error(due, "^" + ";".repeat(800));
        error(due, "table;^" + "(".repeat(794));
        error(due, "table" + " ".repeat(795) + "^");
        error(due, "table;column a ^days;");
        error(due, "table;column a ^;");
        error(due, "table;column a day ^column b day;");
        error(due, "table;column ^A day;");
        error(due, "table;column a^\tday;");
        error(due, "table;column a day;^" + (char) 233);
        error(due, "table;column a day;^" + (char) 0);
        error(due, "table;^row 1;");
        error(due, "table;^row;");
        error(due, TABLE + "row 1 1^;");
        error(due, TABLE + "row^;");
        error(due, TABLE + "row 1 1 1 ^1;");
        error(due, TABLE + "row 1 1 ^a;");
        error(due, TABLE + "row 1^-1 1;");
        error(due, TABLE + "row 1 1 1^");
        error(due, TABLE + "row 1 1 1;^index a;");
        error(due, TABLE + "index a;^column d day;");
        error(due, TABLE + "prepare p a=1;^row 1 1 1;");
        error(due, TABLE + "cost 1 1 1;^prepare p a=1;");
        error(due, TABLE + "cost 1 1 1;^cost 1 1 1;");
        error(due, TABLE + "tries 1;^cost 1 1 1;");
        error(due, TABLE + "tries 1;^tries 1;");
        error(due, TABLE + "cost 1 1^;");
        error(due, TABLE + "cost 1 1 1 ^1;");
        error(due, TABLE + "tries^;");
        error(due, TABLE + "index ^1;");
        error(due, TABLE + "index a ^b;");
        error(due, TABLE + "prepare ^not a=1;");
        error(due, TABLE + "prepare p^;");
        error(due, TABLE + "prepare p ^and a=1;");
        error(due, TABLE + "prepare p a^;");
        error(due, TABLE + "prepare p a=^;");
        error(due, TABLE + "prepare p a=^=1;");
        error(due, TABLE + "prepare p a=^or;");
        error(due, TABLE + "prepare p a=^(1);");
        error(due, TABLE + "prepare p a=?^;");
        error(due, TABLE + "prepare p a=?^a;");
        error(due, TABLE + "prepare p a=?^?0;");
        error(due, TABLE + "prepare p ^1=a;");
        error(due, TABLE + "prepare p (a=1^;");
        error(due, TABLE + "prepare p a=1^);");
        error(due, TABLE + "prepare p (a=1) ^(a=1);");
        error(due, TABLE + "prepare p (^)");
        error(due, TABLE + "prepare p a=1 or^;");
        error(due, TABLE + "prepare p a=1 and^;");
        error(due, TABLE + "prepare p not^;");
        error(due, TABLE + "prepare p a=1 ^not a=1;");
        error(due, TABLE + "prepare p a=1 ^andb=1;");
        error(due, TABLE + "prepare p ^abcdefghi=1;");
        error(due, TABLE + "prepare p a^!=1;");
        error(due, TABLE + "prepare p a=1^");
    }

    private static void promise3OtherErrors() {
        error(PreparedPlans.OUT_OF_RANGE, TABLE + "row ^10000 0 0;");
        error(PreparedPlans.OUT_OF_RANGE, TABLE + "row 9999 ^1000 0;");
        error(PreparedPlans.OUT_OF_RANGE, TABLE + "row 9999 999 ^2;");
        error(PreparedPlans.OUT_OF_RANGE, TABLE + "row ^99999999999999999999999999999999 0 0;");
        error(PreparedPlans.OUT_OF_RANGE, TABLE + "row ^4294967296 0 0;");
        error(PreparedPlans.OUT_OF_RANGE, TABLE + "row 0 ^0001000;");
        error(PreparedPlans.OUT_OF_RANGE, TABLE + "prepare p a=^10000;");
        error(PreparedPlans.OUT_OF_RANGE, TABLE + "prepare p b<^1000;");
        error(PreparedPlans.OUT_OF_RANGE, TABLE + "prepare p c>^2;");
        error(PreparedPlans.OUT_OF_RANGE, TABLE + "prepare p a=?^4;");
        error(PreparedPlans.OUT_OF_RANGE, TABLE + "prepare p a=?0 and b=?^4;");
        error(PreparedPlans.OUT_OF_RANGE, TABLE + "cost ^100 1 1;");
        error(PreparedPlans.OUT_OF_RANGE, TABLE + "cost 99 99 ^100;");
        error(PreparedPlans.OUT_OF_RANGE, TABLE + "tries ^100;");
        error(PreparedPlans.UNKNOWN, TABLE + "index ^d;");
        error(PreparedPlans.UNKNOWN, "table;index ^a;");
        error(PreparedPlans.UNKNOWN, TABLE + "prepare p ^d;");
        error(PreparedPlans.UNKNOWN, TABLE + "prepare p a=^d;");
        error(PreparedPlans.UNKNOWN, TABLE + "prepare p ^aa=1;");
        error(PreparedPlans.DUPLICATE, TABLE + "column ^a text;");
        error(PreparedPlans.DUPLICATE, TABLE + "index a;index b;index ^a;");
        error(PreparedPlans.DUPLICATE, TABLE + "prepare p a=1;prepare ^p d=1;");
        error(PreparedPlans.MISMATCH, TABLE + "prepare p a=^b;");
        error(PreparedPlans.MISMATCH, TABLE + "prepare p c<^b;");
        error(PreparedPlans.MISMATCH, TABLE + "prepare p a=?1 or b=^?1;");
        error(PreparedPlans.MISMATCH, TABLE + "prepare p a=?1 or b=^?01");
        same("a hole's type is its statement's", Checks.load(new PreparedPlans(), TABLE + "prepare p a=?1;prepare q b=?1 and b<?1;"), 2);
        same("a column with itself", Checks.load(new PreparedPlans(), TABLE + "prepare p a=a;"), 1);
        same("a statement with a column's name", Checks.load(new PreparedPlans(), TABLE + "prepare a a=1;"), 1);
    }

    private static void promise3Limits() {
        String columns = "table;column a day;column b day;column c day;column d day;column e day;";
        same("5 columns and indexes", Checks.load(new PreparedPlans(), columns + "index a;index b;index c;index d;index e;"), 0);
        error(PreparedPlans.DUPLICATE, columns + "index a;index b;index c;index d;index e;index ^e;");
        error(PreparedPlans.TOO_MANY, columns + "^column;");
        error(PreparedPlans.TOO_MANY, columns + "^column a day;");
        error(PreparedPlans.SYNTAX_ERROR, columns + "row 1 1 1 1 1;^column f day;");
        String rows = "table;column a day;" + "row 1;".repeat(40);
        PreparedPlans x = Checks.loaded(rows);
        same("40 rows", x.count(1), 40);
        error(PreparedPlans.TOO_MANY, rows + "^row");
        StringBuilder statements = new StringBuilder(TABLE);
        for (char name = 'p'; name < 'v'; name++) {
            statements.append("prepare ").append(name).append(" a=1;");
        }
        same("6 statements", Checks.load(new PreparedPlans(), statements.toString()), 6);
        error(PreparedPlans.TOO_MANY, statements + "^prepare p");
        error(PreparedPlans.SYNTAX_ERROR, statements + "tries 1;^prepare p");
        same("6 deep", Checks.load(new PreparedPlans(), TABLE + "prepare p ((((((a=1))))));"), 1);
        same("6 nots", Checks.load(new PreparedPlans(), TABLE + "prepare p not not not not not not a=1;"), 1);
        same("6 deep again and again", Checks.load(new PreparedPlans(), TABLE + "prepare p ((not not(a=1 or(a=2)and not a=1)))or((((((a=1))))));"), 1);
        error(PreparedPlans.TOO_DEEP, TABLE + "prepare p ((((((^(;");
        error(PreparedPlans.TOO_DEEP, TABLE + "prepare p not not not not not not ^not");
        error(PreparedPlans.TOO_DEEP, TABLE + "prepare p not (not (not (^(a=1))));");
        error(PreparedPlans.TOO_DEEP, TABLE + "prepare p (not (not (not a=1 and not ^(a=2))));");
    }

    private static void promise4ErrorOffset() {
        PreparedPlans x = Checks.loaded(SHOP);
        same("none", x.errorOffset(), -1);
        Checks.load(x, "table;x");
        same("an error", x.errorOffset(), 6);
        fails("load above the buffer", ARGUMENT, () -> x.load(1));
        same("an exception keeps it", x.errorOffset(), 6);
        x.analyze();
        x.undo();
        same("undo keeps it", x.errorOffset(), 6);
        Checks.load(x, "table;");
        same("none again", x.errorOffset(), -1);
        Checks.load(x, "t");
        x.undo();
        same("undo of load keeps it", x.errorOffset(), 0);
    }

    private static void promise5Count() {
        PreparedPlans x = Checks.loaded(SHOP);
        int[] due = {3, 4, 2, 0, 1, 3, 2, 2, 4};
        for (int what = 0; what < due.length; what++) {
            same("count(" + what + ")", x.count(what), due[what]);
        }
        x.insert(0, 0, 0, 0, 0);
        x.setIndex(2, true);
        same("rows", x.count(1), 5);
        same("rows of the statistics", x.count(8), 4);
        same("version", x.count(3), 1);
        PreparedPlans y = Checks.loaded("table;cost 0 99 7;tries 0;");
        same("scan", y.count(4), 0);
        same("probe", y.count(5), 99);
        same("fetch", y.count(6), 7);
        same("tries", y.count(7), 0);
        PreparedPlans z = Checks.loaded("table;");
        same("scan without cost", z.count(4), 1);
        same("probe without cost", z.count(5), 3);
        same("fetch without cost", z.count(6), 2);
        same("tries without tries", z.count(7), 3);
        fails("count(-1)", ARGUMENT, () -> x.count(-1));
        fails("count(9)", ARGUMENT, () -> x.count(9));
    }

    private static void promise6Column() {
        PreparedPlans x = Checks.loaded(SHOP);
        int[][] due = {{0, 1, 3, 10, 30}, {1, 1, 3, 5, 12}, {2, 0, 2, 0, 1}};
        for (int column = 0; column < due.length; column++) {
            for (int what = 0; what < 5; what++) {
                same("column(" + column + ", " + what + ")", x.column(column, what), due[column][what]);
            }
        }
        x.insert(9999, 0, 0, 0, 0);
        same("the statistics stay", x.column(0, 4), 30);
        fails("column(3, 0)", INDEX, () -> x.column(3, 0));
        fails("column(-1, 0)", INDEX, () -> x.column(-1, 0));
        fails("column(3, 5)", INDEX, () -> x.column(3, 5));
        fails("column(0, 5)", ARGUMENT, () -> x.column(0, 5));
        fails("column(0, -1)", ARGUMENT, () -> x.column(0, -1));
        PreparedPlans y = Checks.loaded(TABLE);
        for (int what = 2; what < 5; what++) {
            same("without rows " + what, y.column(0, what), 0);
        }
        for (int i = 0; i < 4; i++) {
            x.delete(0);
        }
        x.delete(0);
        x.analyze();
        same("different without rows any more", x.column(0, 2), 0);
        same("least without rows any more", x.column(0, 3), 0);
        same("greatest without rows any more", x.column(0, 4), 0);
    }

    private static void promise7Value() {
        PreparedPlans x = Checks.loaded(SHOP);
        int[][] due = {{10, 5, 1}, {20, 5, 0}, {30, 9, 1}, {30, 12, 1}};
        for (int row = 0; row < due.length; row++) {
            for (int column = 0; column < 3; column++) {
                same("value(" + row + ", " + column + ")", x.value(row, column), due[row][column]);
            }
        }
        fails("value(4, 0)", INDEX, () -> x.value(4, 0));
        fails("value(-1, 0)", INDEX, () -> x.value(-1, 0));
        fails("value(0, 3)", INDEX, () -> x.value(0, 3));
        fails("value(0, -1)", INDEX, () -> x.value(0, -1));
    }

    private static void promise8Named() {
        PreparedPlans x = Checks.loaded(TABLE + "prepare abcdefgh a=1;prepare b b=1;prepare zz c=1;prepare z c=1;");
        same("the first", Checks.named(x, "abcdefgh"), 0);
        same("the second", Checks.named(x, "b"), 1);
        same("the third", Checks.named(x, "zz"), 2);
        same("the last", Checks.named(x, "z"), 3);
        same("a part", Checks.named(x, "abcdefg"), -1);
        same("more", Checks.named(x, "abcdefghi"), -1);
        same("a space before", Checks.named(x, " b"), -1);
        same("a space behind", Checks.named(x, "b "), -1);
        same("a zero before", Checks.named(x, "\u0000b"), -1);
        same("another byte", Checks.named(x, "B"), -1);
        same("a column", Checks.named(x, "a"), -1);
        same("no bytes", x.named(0), -1);
        Checks.put(x, "bbbbb");
        same("the first bytes", x.named(1), 1);
        fails("emptied", ARGUMENT, () -> x.named(1));
        same("20 bytes", x.append(0, 0, 0, 0, 0), 20);
        fails("negative", ARGUMENT, () -> x.named(-1));
        fails("above", ARGUMENT, () -> x.named(21));
        same("unchanged by exceptions", x.append(0, 0, 0, 0, 0), 40);
        same("40 bytes", x.named(40), -1);
        same("without statements", Checks.named(new PreparedPlans(), "b"), -1);
        same("no change", x.undo(), 0);
    }

    private static void promise9Hole() {
        PreparedPlans x = Checks.loaded(SHOP);
        int[][] due = {{0, -1, -1, -1}, {-1, 1, -1, 2}};
        for (int statement = 0; statement < 2; statement++) {
            for (int hole = 0; hole < 4; hole++) {
                same("hole(" + statement + ", " + hole + ")", x.hole(statement, hole), due[statement][hole]);
            }
        }
        fails("hole(2, 0)", INDEX, () -> x.hole(2, 0));
        fails("hole(-1, 4)", INDEX, () -> x.hole(-1, 4));
        fails("hole(0, 4)", ARGUMENT, () -> x.hole(0, 4));
        fails("hole(0, -1)", ARGUMENT, () -> x.hole(0, -1));
    }

    private static void statementIs(String when, PreparedPlans x, int statement, int... due) {
        for (int what = 0; what < due.length; what++) {
            same(when + " statement(" + statement + ", " + what + ")", x.statement(statement, what), due[what]);
        }
    }

    private static void promise10Statement() {
        PreparedPlans x = Checks.loaded(SHOP);
        statementIs("at first", x, 0, 0, 0, 0, 0, 0, 0);
        // a>25: estimate 4 * 5 / 21 = 0, cost 3 by the index, 2 rows touched
        x.run(0, 25, 0, 0, 0);
        statementIs("after one run", x, 0, 1, 1, 3, 0, 0, 2);
        // a>10: estimate 4 * 20 / 21 = 3, * 125 / 100 = 3, cost 9; the scan costs 4
        x.run(0, 10, 0, 0, 0);
        statementIs("after a scan", x, 0, 2, 2, 7, 0, 0, 6);
        // the generic plan is a scan of cost 4: 4 * 2 > 7
        x.run(0, 25, 0, 0, 0);
        statementIs("after tries", x, 0, 3, 3, 10, 1, 1, 8);
        x.setIndex(2, true);
        statementIs("when stale", x, 0, 3, 3, 10, 1, 2, 8);
        statementIs("another statement", x, 1, 0, 0, 0, 0, 0, 0);
        x.run(1, 0, 0, 0, 0);
        x.run(1, 0, 0, 0, 0);
        x.run(1, 0, 0, 0, 0);
        // all are scans of cost 4: 4 * 2 <= 8, so that the third one is generic
        statementIs("a generic run", x, 1, 3, 2, 8, 1, 1, 12);
        fails("statement(2, 0)", INDEX, () -> x.statement(2, 0));
        fails("statement(-1, 6)", INDEX, () -> x.statement(-1, 6));
        fails("statement(0, 6)", ARGUMENT, () -> x.statement(0, 6));
        fails("statement(0, -1)", ARGUMENT, () -> x.statement(0, -1));
    }

    private static void promise11Learned() {
        PreparedPlans x = Checks.loaded(SHOP);
        same("at first", x.learned(0, 0), 100);
        same("a column without an index", x.learned(1, 2), 100);
        x.run(0, 25, 0, 0, 0);
        // 100 * 2 / 1 (the estimate 0 counts 1)
        same("after 2 rows of 0", x.learned(0, 0), 125);
        same("another column", x.learned(0, 1), 100);
        same("another statement", x.learned(1, 0), 100);
        x.run(0, 10, 0, 0, 0);
        same("a scan teaches nothing", x.learned(0, 0), 125);
        x.run(0, 40, 0, 0, 0);
        same("no rows", x.learned(0, 0), 93);
        x.analyze();
        x.setIndex(0, false);
        same("it stays", x.learned(0, 0), 93);
        // 12 rows where the statistics expect none: 1200 percent are limited to 1000
        PreparedPlans y = Checks.loaded("table;column a day;index a;row 1;prepare p a>?0;cost 9 0 1;");
        for (int i = 0; i < 12; i++) {
            y.insert(50, 0, 0, 0, 0);
        }
        same("rows found", y.run(0, 20, 0, 0, 0), 12);
        same("limited to 1000", y.learned(0, 0), 325);
        y.run(0, 20, 0, 0, 0);
        same("limited to 1000 again", y.learned(0, 0), (3 * 325 + 1000) / 4);
        fails("learned(2, 0)", INDEX, () -> x.learned(2, 0));
        fails("learned(-1, 0)", INDEX, () -> x.learned(-1, 0));
        fails("learned(0, 3)", INDEX, () -> x.learned(0, 3));
        fails("learned(0, -1)", INDEX, () -> x.learned(0, -1));
        learnsFromTheGenericEstimate();
    }

    /** Generic a>?0 expects (6 + 2) / 3 = 2 rows, whatever the value; the special plan of a>0 expects 5. */
    private static void learnsFromTheGenericEstimate() {
        PreparedPlans x = Checks.loaded("table;column a number;index a;row 0;row 1;row 2;row 3;row 4;row 5;"
                + "prepare p a>?0;cost 9 0 1;tries 0;");
        same("generic by the index", x.wouldUse(0, 0, 0, 0, 0), 3);
        x.run(0, 0, 0, 0, 0);
        same("100 * 5 / 2 = 250", x.learned(0, 0), (300 + 250) / 4);
    }

    private static void promise12Kept() {
        PreparedPlans x = Checks.loaded("table;column a day;index a;row 1;row 2;row 3;prepare p a=?0;cost 2 0 1;tries 1;");
        same("none at first", x.kept(0), -2);
        x.run(0, 1, 0, 0, 0);
        same("none before tries", x.kept(0), -2);
        x.run(0, 1, 0, 0, 0);
        same("by the index", x.kept(0), 0);
        x.setIndex(0, false);
        same("stale", x.kept(0), 0);
        same("told as stale", x.statement(0, 4), 2);
        x.run(0, 1, 0, 0, 0);
        same("made anew", x.kept(0), -1);
        same("made twice", x.statement(0, 3), 2);
        fails("kept(1)", INDEX, () -> x.kept(1));
        fails("kept(-1)", INDEX, () -> x.kept(-1));
    }

    private static void promise13GenericCost() {
        PreparedPlans x = Checks.loaded(SHOP);
        same("scan", x.genericCost(0, -1), 4);
        // (4 + 2) / 3 = 2
        same("by a>?0", x.genericCost(0, 0), 7);
        same("no comparison of b", x.genericCost(0, 1), -1);
        same("no index", x.genericCost(0, 2), -1);
        same("not sargable", x.genericCost(1, 1), -1);
        x.setIndex(2, true);
        // 4 rows, 2 values: 2
        same("by c=1", x.genericCost(0, 2), 7);
        x.setIndex(0, false);
        same("no index any more", x.genericCost(0, 0), -1);
        x.setIndex(0, true);
        x.run(0, 25, 0, 0, 0);
        x.run(0, 25, 0, 0, 0);
        x.run(0, 25, 0, 0, 0);
        // learned: 125, 143, 157; 2 * 157 / 100 = 3
        same("learned", x.genericCost(0, 0), 9);
        x.insert(1, 1, 1, 0, 0);
        same("the statistics' rows", x.genericCost(0, -1), 4);
        fails("genericCost(2, 0)", INDEX, () -> x.genericCost(2, 0));
        fails("genericCost(-1, 3)", INDEX, () -> x.genericCost(-1, 3));
        fails("genericCost(0, 3)", ARGUMENT, () -> x.genericCost(0, 3));
        fails("genericCost(0, -2)", ARGUMENT, () -> x.genericCost(0, -2));
    }

    /** The cost by a is that of an index only where its comparison is sargable. */
    private static void sargable(String condition, int due) {
        String text = "table;column a day;column b day;index a;row 1 1;row 2 2;row 3 3;row 3 4;prepare p ";
        PreparedPlans x = Checks.loaded(text + condition + ";cost 1 0 1;");
        same("sargable " + condition, x.genericCost(0, 0), due);
    }

    private static void promise13Sargable() {
        sargable("a=1", 2);
        sargable("a=?0", 2);
        sargable("a<?0", 2);
        sargable("a>1", 2);
        sargable("a<1", 0);
        sargable("a=b", -1);
        sargable("b=1", -1);
        sargable("not a=1", -1);
        sargable("not not a=1", -1);
        sargable("not (a=1 and b=1)", -1);
        sargable("((a=1))", 2);
        sargable("a=1 and b=1", 2);
        sargable("b=1 and (b=2 and (a=1))", 2);
        sargable("b=1 and (a=2 or a=1)", -1);
        sargable("a=1 or a=1", -1);
        sargable("(a=1) or b=1", -1);
        sargable("(a=1 or b=1) and a=2", 2);
        sargable("a=1 and b=1 or a=1", -1);
        sargable("((a=1 and b=2)) and not b=1", 2);
        // the chosen one is that with the smallest estimate: 2, 0 (below the least), 4
        sargable("a=1 and a<1 and a>0", 0);
        // (4 + 2) / 3 = 2 against a>2: 4 * (3 - 2) / 3 = 1
        sargable("a<?0 and a>2", 1);
    }

    private static void promise14Special() {
        PreparedPlans x = Checks.loaded(SHOP);
        same("index", x.special(0, 25, 0, 0, 0), 0);
        same("scan", x.special(0, 10, 0, 0, 0), -1);
        same("no sargable one", x.special(1, 0, 999, 0, 1), -1);
        same("nothing changes", x.checksum(), Checks.loaded(SHOP).checksum());
        fails("special(2, ..)", INDEX, () -> x.special(2, 10000, 0, 0, 0));
        fails("special(-1, ..)", INDEX, () -> x.special(-1, 0, 0, 0, 0));
        wrongValues("special", (s, v) -> x.special(s, v[0], v[1], v[2], v[3]));
        // cost 3 by a (a=1: 3 rows / 3 values), by b (3 / 3) and by a scan
        String tie = "table;column a day;column b day;index a;index b;row 1 1;row 2 2;row 3 3;prepare p b=?0 and a=?1;cost ";
        same("a tie with the scan", Checks.loaded(tie + "1 2 1;").special(0, 1, 1, 0, 0), -1);
        same("a tie of columns", Checks.loaded(tie + "1 1 1;").special(0, 1, 1, 0, 0), 0);
        same("the second column", Checks.loaded(tie + "1 1 1;").special(0, 4, 1, 0, 0), 1);
        same("the edge of a number", Checks.loaded(SHOP).special(0, 9999, 0, 0, 0), 0);
    }

    private interface ValuesCall {
        long call(int statement, int[] values);
    }

    /** Calls with SHOP's statements: 0 has hole 0 (number), 1 has holes 1 (day) and 3 (flag). */
    private static void wrongValues(String name, ValuesCall call) {
        int[][] first = {{10000, 0, 0, 0}, {-1, 0, 0, 0}, {0, 1, 0, 0}, {0, -1, 0, 0}, {0, 0, 1, 0}, {0, 0, 0, 1}};
        for (int[] values : first) {
            fails(name + " of 0 with wrong values", ARGUMENT, () -> call.call(0, values));
        }
        int[][] second = {{1, 0, 0, 0}, {0, 1000, 0, 0}, {0, -1, 0, 0}, {0, 0, -1, 0}, {0, 0, 0, 2}, {0, 0, 0, -1}};
        for (int[] values : second) {
            fails(name + " of 1 with wrong values", ARGUMENT, () -> call.call(1, values));
        }
        call.call(0, new int[] {9999, 0, 0, 0});
        call.call(1, new int[] {0, 999, 0, 1});
    }

    private static void promise15SpecialCost() {
        PreparedPlans x = Checks.loaded(SHOP);
        same("scan", x.specialCost(0, -1, 0, 0, 0, 0), 4);
        same("a>30", x.specialCost(0, 0, 30, 0, 0, 0), 3);
        same("a>25: 4*5/21", x.specialCost(0, 0, 25, 0, 0, 0), 3);
        same("a>24: 4*6/21", x.specialCost(0, 0, 24, 0, 0, 0), 5);
        same("a>10: 4*20/21", x.specialCost(0, 0, 10, 0, 0, 0), 9);
        same("a>0: limited to 4", x.specialCost(0, 0, 0, 0, 0, 0), 11);
        same("a>9999: limited to 0", x.specialCost(0, 0, 9999, 0, 0, 0), 3);
        same("no such plan", x.specialCost(0, 1, 0, 0, 0, 0), -1);
        same("no index", x.specialCost(0, 2, 0, 0, 0, 0), -1);
        fails("specialCost(2, ..)", INDEX, () -> x.specialCost(2, 3, 0, 0, 0, 0));
        fails("specialCost(-1, ..)", INDEX, () -> x.specialCost(-1, 0, 0, 0, 0, 0));
        fails("plan 3", ARGUMENT, () -> x.specialCost(0, 3, 0, 0, 0, 0));
        fails("plan -2", ARGUMENT, () -> x.specialCost(0, -2, 0, 0, 0, 0));
        wrongValues("specialCost", (s, v) -> x.specialCost(s, -1, v[0], v[1], v[2], v[3]));
        String text = "table;column a day;index a;row 10;row 10;row 12;row 19;row 19;prepare p a=?0;prepare q a<?0;cost 1 0 1;";
        PreparedPlans y = Checks.loaded(text);
        int[][] equal = {{9, 0}, {10, 2}, {11, 2}, {19, 2}, {20, 0}};
        for (int[] pair : equal) {
            same("a=" + pair[0], y.specialCost(0, 0, pair[0], 0, 0, 0), pair[1]);
        }
        int[][] less = {{0, 0}, {10, 0}, {11, 0}, {12, 1}, {13, 1}, {14, 2}, {19, 4}, {20, 5}, {21, 5}, {999, 5}};
        for (int[] pair : less) {
            same("a<" + pair[0], y.specialCost(1, 0, pair[0], 0, 0, 0), pair[1]);
        }
        PreparedPlans z = Checks.loaded("table;column a day;index a;prepare p a=?0 and a<?1;cost 5 7 9;");
        z.insert(3, 0, 0, 0, 0);
        same("without rows", z.specialCost(0, 0, 3, 4, 0, 0), 7);
        same("without rows, generic", z.genericCost(0, 0), 7);
        same("without rows, scan", z.specialCost(0, -1, 3, 4, 0, 0), 0);
    }

    private static void promise16WouldUse() {
        PreparedPlans x = Checks.loaded(SHOP);
        same("special index", x.wouldUse(0, 25, 0, 0, 0), 2);
        same("special scan", x.wouldUse(0, 10, 0, 0, 0), 0);
        fails("wouldUse(2, ..)", INDEX, () -> x.wouldUse(2, 0, 0, 0, 0));
        fails("wouldUse(-1, ..)", INDEX, () -> x.wouldUse(-1, 0, 0, 0, 0));
        wrongValues("wouldUse", (s, v) -> x.wouldUse(s, v[0], v[1], v[2], v[3]));
        x.run(1, 0, 0, 0, 0);
        same("a special plan before tries", x.wouldUse(1, 0, 0, 0, 0), 0);
        x.run(1, 0, 0, 0, 0);
        long before = x.checksum();
        same("a generic plan at tries", x.wouldUse(1, 0, 0, 0, 0), 1);
        same("nothing changes", x.checksum(), before);
        same("nothing is kept", x.kept(1), -2);
        same("2 changes and load", x.undo(), 2);
        keptCostDecides();
    }

    /** The generic plan keeps the cost that it had when it was made, also when runs have taught another. */
    private static void keptCostDecides() {
        PreparedPlans x = Checks.loaded("table;column a number;index a;row 0;row 1;row 2;row 3;row 4;row 5;"
                + "prepare p a>?0;cost 9 0 10;tries 1;");
        // special: 6 * (5 - 2) / 6 = 3 rows expected, cost 30, and 3 are touched
        x.run(0, 2, 0, 0, 0);
        same("still 100 percent", x.learned(0, 0), 100);
        // generic: (6 + 2) / 3 = 2 rows expected, cost 20: 20 * 1 <= 30
        same("generic by a", x.wouldUse(0, 0, 0, 0, 0), 3);
        for (int i = 0; i < 4; i++) {
            x.run(0, 0, 0, 0, 0);
        }
        same("it would cost more now", x.genericCost(0, 0), 40);
        same("kept cost 20", x.wouldUse(0, 0, 0, 0, 0), 3);
        x.analyze();
        same("made anew it costs 40", x.wouldUse(0, 0, 0, 0, 0) % 2, 0);
    }

    private static void promise17Rows() {
        PreparedPlans x = Checks.loaded(SHOP);
        same("a>25 and c=1", x.rows(0, 25, 0, 0, 0), 12);
        same("a>5 and c=1", x.rows(0, 5, 0, 0, 0), 13);
        same("b=9 or c=0", x.rows(1, 0, 9, 0, 0), 6);
        same("b=5 or c=1", x.rows(1, 0, 5, 0, 1), 15);
        x.delete(0);
        same("after delete", x.rows(0, 25, 0, 0, 0), 6);
        fails("rows(2, ..)", INDEX, () -> x.rows(2, 0, 0, 0, 0));
        fails("rows(-1, ..)", INDEX, () -> x.rows(-1, 0, 0, 0, 0));
        wrongValues("rows", (s, v) -> x.rows(s, v[0], v[1], v[2], v[3]));
        String text = "table;column a day;column b day;row 1 1;row 1 2;row 2 1;row 2 2;row 3 1;prepare p ";
        String[] conditions = {"a=1", "a<2", "a>1", "a=b", "a<b", "a>b", "not a=1", "not a=1 and b=1", "not (a=1 and b=1)",
            "a=1 or b=1 and a=2", "(a=1 or b=1) and a=2", "not not a=3", "a=2 and b=2 or a=3"};
        int[] due = {3, 3, 28, 9, 2, 20, 28, 20, 30, 7, 4, 16, 24};
        for (int i = 0; i < conditions.length; i++) {
            same(conditions[i], Checks.loaded(text + conditions[i] + ";").rows(0, 0, 0, 0, 0), due[i]);
        }
        PreparedPlans y = Checks.loaded("table;column a day;" + "row 1;".repeat(40) + "prepare p a=1;prepare q not a=1;");
        same("40 rows", y.rows(0, 0, 0, 0, 0), (1L << 40) - 1);
        same("none of 40 rows", y.rows(1, 0, 0, 0, 0), 0);
        same("no rows", Checks.loaded("table;column a day;prepare p not a=1;").rows(0, 0, 0, 0, 0), 0);
    }

    private static void promise18Run() {
        PreparedPlans x = Checks.loaded(SHOP);
        same("found", x.run(0, 25, 0, 0, 0), 2);
        same("found by a scan", x.run(0, 5, 0, 0, 0), 3);
        same("none found", x.run(0, 30, 0, 0, 0), 0);
        same("touched by the index, found fewer", Checks.loaded(TABLE + "index a;row 1 1 1;row 1 1 0;prepare p a=1 and c=1;cost 9 0 1;")
                .run(0, 0, 0, 0, 0), 1);
        long before = x.checksum();
        fails("run(2, ..)", INDEX, () -> x.run(2, 0, 0, 0, 0));
        fails("run(-1, ..)", INDEX, () -> x.run(-1, 0, 0, 0, 0));
        fails("run of a wrong value", ARGUMENT, () -> x.run(0, 10000, 0, 0, 0));
        same("exceptions change nothing", x.checksum(), before);
        wrongValues("run", (s, v) -> x.run(s, v[0], v[1], v[2], v[3]));
        touchesByTheChosenComparison();
        touchesByTheFirstOfTwo();
        choosesGenericPlansUnseen();
        usesGenericPlans();
    }

    /** a>1 expects 4 rows (limited), a<?0 at 3 expects 2: the run touches the rows with a<3, also new ones. */
    private static void touchesByTheChosenComparison() {
        PreparedPlans x = Checks.loaded("table;column a day;index a;row 2;row 2;row 3;row 5;prepare p a>1 and a<?0;cost 9 0 1;");
        same("a<3: 4*1/4", x.specialCost(0, 0, 3, 0, 0, 0), 1);
        x.insert(0, 0, 0, 0, 0);
        same("found", x.run(0, 3, 0, 0, 0), 2);
        same("touched", x.statement(0, 5), 3);
        same("learned 300", x.learned(0, 0), 150);
    }

    /** Both expect 2 of 4 rows: the first one in the text is chosen, also if it stands in parentheses. */
    private static void touchesByTheFirstOfTwo() {
        String text = "table;column a day;index a;row 1;row 1;row 2;row 4;prepare p ";
        PreparedPlans x = Checks.loaded(text + "(a<3) and a>2;cost 9 0 1;");
        same("a<3", x.specialCost(0, 0, 0, 0, 0, 0), 2);
        x.run(0, 0, 0, 0, 0);
        same("touched a<3", x.statement(0, 5), 3);
        PreparedPlans y = Checks.loaded(text + "a>2 and a<3;cost 9 0 1;");
        same("a>2", y.specialCost(0, 0, 0, 0, 0, 0), 2);
        y.run(0, 0, 0, 0, 0);
        same("touched a>2", y.statement(0, 5), 1);
    }

    /** With a=9 seen the plan by a would cost 0; not seen it expects 3 of 3 rows, and b>?1 expects 1. */
    private static void choosesGenericPlansUnseen() {
        PreparedPlans x = Checks.loaded("table;column a day;column b day;index a;index b;row 1 1;row 1 2;row 1 3;"
                + "prepare p a=?0 and b>?1;cost 9 0 1;tries 0;");
        same("special by a", x.special(0, 9, 0, 0, 0), 0);
        same("generic by b", x.wouldUse(0, 9, 0, 0, 0), 5);
        x.run(0, 9, 0, 0, 0);
        same("kept", x.kept(0), 1);
        same("touched b>0", x.statement(0, 5), 3);
    }

    private static void usesGenericPlans() {
        PreparedPlans x = Checks.loaded("table;column a day;index a;row 1;row 1;row 1;row 2;prepare p a=?0;cost 1 0 1;tries 0;");
        // 4 rows, 2 values: generic cost 2, and 2 * 0 <= 0
        same("generic at once", x.wouldUse(0, 0, 0, 0, 0), 3);
        same("found", x.run(0, 1, 0, 0, 0), 3);
        statementIs("generic", x, 0, 1, 0, 0, 1, 1, 3);
        same("100 * 3 / 2", x.learned(0, 0), 112);
        x.run(0, 2, 0, 0, 0);
        statementIs("kept", x, 0, 2, 0, 0, 1, 1, 4);
        same("100 * 1 / 2", x.learned(0, 0), (336 + 50) / 4);
        x.analyze();
        x.run(0, 2, 0, 0, 0);
        statementIs("made anew", x, 0, 3, 0, 0, 2, 1, 5);
    }

    private static void promise19Insert() {
        PreparedPlans x = Checks.loaded(SHOP);
        same("insert", x.insert(9999, 999, 1, 0, 0), 5);
        same("its number", x.value(4, 0), 9999);
        same("its day", x.value(4, 1), 999);
        same("its flag", x.value(4, 2), 1);
        same("the statistics stay", x.count(8), 4);
        same("the version stays", x.count(3), 0);
        long before = x.checksum();
        fails("number", ARGUMENT, () -> x.insert(10000, 0, 0, 0, 0));
        fails("negative number", ARGUMENT, () -> x.insert(-1, 0, 0, 0, 0));
        fails("day", ARGUMENT, () -> x.insert(0, 1000, 0, 0, 0));
        fails("flag", ARGUMENT, () -> x.insert(0, 0, 2, 0, 0));
        fails("no column 3", ARGUMENT, () -> x.insert(0, 0, 0, 1, 0));
        fails("no column 4", ARGUMENT, () -> x.insert(0, 0, 0, 0, -1));
        same("exceptions change nothing", x.checksum(), before);
        for (int rows = 6; rows <= 40; rows++) {
            same("insert", x.insert(rows, 0, 0, 0, 0), rows);
        }
        fails("a 41st row", STATE, () -> x.insert(0, 0, 0, 0, 0));
        fails("a wrong 41st row", ARGUMENT, () -> x.insert(0, 0, 2, 0, 0));
        PreparedPlans y = new PreparedPlans();
        fails("no columns", STATE, () -> y.insert(0, 0, 0, 0, 0));
        fails("no columns, wrong value", ARGUMENT, () -> y.insert(0, 0, 0, 0, 1));
        fails("a table without columns", STATE, () -> Checks.loaded("table;").insert(0, 0, 0, 0, 0));
        PreparedPlans z = Checks.loaded("table;column a day;column b day;column c day;column d day;column e flag;");
        same("five columns", z.insert(1, 2, 3, 4, 1), 1);
        same("d", z.value(0, 3), 4);
        same("e", z.value(0, 4), 1);
    }

    private static void promise20Delete() {
        PreparedPlans x = Checks.loaded(SHOP);
        same("delete", x.delete(1), 3);
        int[] due = {10, 30, 30};
        for (int row = 0; row < due.length; row++) {
            same("row " + row, x.value(row, 0), due[row]);
        }
        same("the last one's day", x.value(2, 1), 12);
        fails("value(3, 0)", INDEX, () -> x.value(3, 0));
        same("delete the last", x.delete(2), 2);
        same("the statistics stay", x.count(8), 4);
        same("the version stays", x.count(3), 0);
        fails("delete(2)", INDEX, () -> x.delete(2));
        fails("delete(-1)", INDEX, () -> x.delete(-1));
        same("delete the first", x.delete(0), 1);
        same("it moved", x.value(0, 0), 30);
        same("delete the only one", x.delete(0), 0);
        fails("delete(0)", INDEX, () -> x.delete(0));
        same("insert again", x.insert(7, 0, 0, 0, 0), 1);
        same("the new row", x.value(0, 1), 0);
    }

    private static int bit(boolean answer) {
        return answer ? 1 : 0;
    }

    private static void promise21SetIndex() {
        PreparedPlans x = Checks.loaded(SHOP);
        same("as it is", bit(x.setIndex(0, true)), 0);
        same("version stays", x.count(3), 0);
        same("take away", bit(x.setIndex(0, false)), 1);
        same("version", x.count(3), 1);
        same("no index", x.column(0, 1), 0);
        same("again", bit(x.setIndex(0, false)), 0);
        same("give", bit(x.setIndex(2, true)), 1);
        same("index", x.column(2, 1), 1);
        same("version 2", x.count(3), 2);
        fails("setIndex(3, ..)", INDEX, () -> x.setIndex(3, true));
        fails("setIndex(-1, ..)", INDEX, () -> x.setIndex(-1, true));
        same("each is a change", x.undo(), 4);
    }

    private static void promise22Analyze() {
        PreparedPlans x = Checks.loaded(SHOP);
        x.insert(40, 4, 0, 0, 0);
        x.delete(0);
        x.delete(0);
        same("version 1", x.analyze(), 1);
        same("rows", x.count(8), 3);
        int[][] due = {{2, 30, 40}, {3, 4, 12}, {2, 0, 1}};
        for (int column = 0; column < due.length; column++) {
            for (int what = 2; what < 5; what++) {
                same("column " + column + " " + what, x.column(column, what), due[column][what - 2]);
            }
        }
        same("version 2", x.analyze(), 2);
        same("version of a new object", new PreparedPlans().analyze(), 1);
        x.setIndex(2, true);
        same("version 4", x.analyze(), 4);
    }

    private static void promise23Undo() {
        PreparedPlans x = new PreparedPlans();
        long[] sums = new long[10];
        sums[0] = x.checksum();
        Checks.load(x, SHOP);
        sums[1] = x.checksum();
        x.insert(40, 0, 0, 0, 0);
        sums[2] = x.checksum();
        x.delete(1);
        sums[3] = x.checksum();
        x.setIndex(2, true);
        sums[4] = x.checksum();
        x.setIndex(2, true);
        sums[5] = x.checksum();
        x.run(0, 25, 0, 0, 0);
        sums[6] = x.checksum();
        x.analyze();
        sums[7] = x.checksum();
        Checks.load(x, TABLE);
        sums[8] = x.checksum();
        same("no change by an error", Checks.load(x, "table"), PreparedPlans.SYNTAX_ERROR);
        fails("no change by an exception", INDEX, () -> x.delete(0));
        Checks.put(x, "abc");
        for (int left = 7; left >= 0; left--) {
            same("undo", x.undo(), left);
            same("as before, " + left, x.checksum(), sums[left]);
        }
        same("nothing to undo", x.undo(), -1);
        same("nothing changes", x.checksum(), sums[0]);
        same("the buffer stays", x.append(0, 0, 0, 0, 0), 40);
        same("the error offset stays", x.errorOffset(), 5);
        undoesEightAtMost();
        undoesKeptPlans();
    }

    private static void undoesEightAtMost() {
        PreparedPlans x = Checks.loaded(TABLE);
        for (int i = 0; i < 20; i++) {
            x.insert(i, 0, 0, 0, 0);
        }
        same("8 of 21", x.undo(), 7);
        same("again", x.undo(), 6);
        same("18 rows", x.count(1), 18);
        x.insert(99, 0, 0, 0, 0);
        same("one more", x.undo(), 6);
        for (int left = 5; left >= 0; left--) {
            same("undo", x.undo(), left);
        }
        same("the others are final", x.undo(), -1);
        same("12 rows", x.count(1), 12);
        same("the last of them", x.value(11, 0), 11);
    }

    /** A version that comes back makes the plan that was made with it fresh again. */
    private static void undoesKeptPlans() {
        PreparedPlans x = Checks.loaded(SHOP.replace("tries 2", "tries 0"));
        x.run(1, 0, 0, 0, 0);
        x.analyze();
        same("stale", x.statement(1, 4), 2);
        x.run(1, 0, 0, 0, 0);
        same("made twice", x.statement(1, 3), 2);
        x.undo();
        same("made once", x.statement(1, 3), 1);
        same("stale again", x.statement(1, 4), 2);
        x.undo();
        same("fresh again", x.statement(1, 4), 1);
        x.undo();
        same("none", x.kept(1), -2);
    }

    private static void promise24Checksum() {
        PreparedPlans x = Checks.loaded("table;column a day;column b flag;index b;row 7 1;row 8 0;prepare p a<?2 and b=1;cost 4 5 6;tries 0;");
        long sum = checksumOf(0, 2, 2, 1, 0, 4, 5, 6, 0, 2);
        sum = checksumOf(sum, 1, 0, 2, 7, 8);
        sum = checksumOf(sum, 2, 1, 2, 0, 1);
        sum = checksumOf(sum, 7, 1, 8, 0);
        same("loaded", x.checksum(), checksumOf(sum, 0, 0, 0, 0, 0, 0, -2, -1, -1, 1, -1, 100, 100));
        // generic: a scan for 8 against 5 + 6 * 1
        same("found", x.run(0, 0, 0, 8, 0), 1);
        same("after a run", x.checksum(), checksumOf(sum, 1, 0, 0, 1, 1, 2, -1, -1, -1, 1, -1, 100, 100));
        PreparedPlans y = Checks.loaded("table;column a number;index a;" + "row 9999;".repeat(40) + "prepare p a=?0;prepare q a=1;");
        long all = checksumOf(0, 1, 40, 2, 0, 1, 3, 2, 3, 40, 0, 1, 1, 9999, 9999);
        for (int row = 0; row < 40; row++) {
            all = checksumOf(all, 9999);
        }
        all = checksumOf(all, 0, 0, 0, 0, 0, 0, -2, 0, -1, -1, -1, 100);
        same("wraps around", y.checksum(), checksumOf(all, 0, 0, 0, 0, 0, 0, -2, -1, -1, -1, -1, 100));
    }

    /** Whatever the arguments are, nothing but the document's exceptions comes. */
    private static void greatArguments() {
        int[] great = {Integer.MIN_VALUE, Integer.MIN_VALUE + 1, -2, Integer.MAX_VALUE - 1, Integer.MAX_VALUE};
        for (PreparedPlans x : new PreparedPlans[] {new PreparedPlans(), Checks.loaded(SHOP)}) {
            for (int g : great) {
                fails("count", ARGUMENT, () -> x.count(g));
                fails("load", ARGUMENT, () -> x.load(g));
                fails("named", ARGUMENT, () -> x.named(g));
                fails("column", INDEX, () -> x.column(g, g));
                fails("value", INDEX, () -> x.value(g, 0));
                fails("value", INDEX, () -> x.value(0, g));
                fails("hole", INDEX, () -> x.hole(g, g));
                fails("statement", INDEX, () -> x.statement(g, g));
                fails("learned", INDEX, () -> x.learned(0, g));
                fails("kept", INDEX, () -> x.kept(g));
                fails("genericCost", INDEX, () -> x.genericCost(g, g));
                fails("special", INDEX, () -> x.special(g, g, g, g, g));
                fails("specialCost", INDEX, () -> x.specialCost(g, g, g, g, g, g));
                fails("wouldUse", INDEX, () -> x.wouldUse(g, g, g, g, g));
                fails("rows", INDEX, () -> x.rows(g, g, g, g, g));
                fails("run", INDEX, () -> x.run(g, g, g, g, g));
                fails("insert", ARGUMENT, () -> x.insert(g, g, g, g, g));
                fails("delete", INDEX, () -> x.delete(g));
                fails("setIndex", INDEX, () -> x.setIndex(g, true));
            }
        }
        PreparedPlans x = Checks.loaded(SHOP);
        for (int g : great) {
            fails("hole of 0", ARGUMENT, () -> x.hole(0, g));
            fails("statement 0", ARGUMENT, () -> x.statement(0, g));
            fails("genericCost of 0", ARGUMENT, () -> x.genericCost(0, g));
            fails("specialCost of 0", ARGUMENT, () -> x.specialCost(0, g, 0, 0, 0, 0));
            fails("run of 0", ARGUMENT, () -> x.run(0, g, 0, 0, 0));
        }
    }

    private static void constants() {
        same("SYNTAX_ERROR", PreparedPlans.SYNTAX_ERROR, -2);
        same("OUT_OF_RANGE", PreparedPlans.OUT_OF_RANGE, -3);
        same("UNKNOWN", PreparedPlans.UNKNOWN, -4);
        same("DUPLICATE", PreparedPlans.DUPLICATE, -5);
        same("MISMATCH", PreparedPlans.MISMATCH, -6);
        same("TOO_MANY", PreparedPlans.TOO_MANY, -7);
        same("TOO_DEEP", PreparedPlans.TOO_DEEP, -8);
    }
}
