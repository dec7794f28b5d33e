/**
 * The boundary cases that the document's sections Conventions, Table, Statements and Statistics name;
 * each method quotes its sentence.
 */
public final class TableBoundsTest {
    private static final String[] SIGNS = {"<", "=", ">"};

    public static void main(String[] args) {
        atMostFiveColumns();
        typesHaveRanges();
        atMostFortyRows();
        rowsAreInTheOrderInWhichTheyWereMade();
        deleteMovesTheRowsBehind();
        atMostSixStatements();
        holesZeroToThree();
        holesHaveTheTypeOfTheirStatement();
        comparisonsHold();
        sargable();
        statisticsTellTheTable();
        statisticsWithoutRows();
        statisticsOfAFullTable();
        statisticsAreAsTheyWereTaken();
        versions();
        estimatesWithoutRows();
        estimatesOfFiveRows();
        estimatesOfOneRow();
        estimatesAtTheEndsOfTheRange();
        estimatesOfEqualAreRoundedUp();
        estimatesUnseen();
        Checks.end("TableBoundsTest");
    }

    private static void same(String what, long got, long due) {
        Checks.same(what, got, due);
    }

    /** "There are at most 5 columns, with indexes from 0." */
    private static void atMostFiveColumns() {
        for (int columns = 0; columns <= 5; columns++) {
            PreparedPlans x = Checks.loaded(Texts.columns(columns, "day") + (columns == 0 ? "" : "index a;"));
            String with = "with " + columns + " columns, ";
            same(with + "count", x.count(0), columns);
            for (int column = 0; column < columns; column++) {
                same(with + "type of " + column, x.column(column, 0), 1);
                same(with + "index of " + column, x.column(column, 1), column == 0 ? 1 : 0);
            }
            int behind = columns;
            Checks.fails(with + "the one behind", Checks.INDEX, () -> x.column(behind, 0));
            Checks.fails(with + "the one before", Checks.INDEX, () -> x.column(-1, 0));
        }
        String five = Texts.columns(5, "day");
        Checks.error(PreparedPlans.TOO_MANY, five + "^column f day;");
        Checks.error(PreparedPlans.TOO_MANY, five + "   ^column f day;");
        Checks.error(PreparedPlans.TOO_MANY, five + "^column f day;column g day;");
        Checks.error(PreparedPlans.TOO_MANY, five + "^column a day;");
    }

    /** "a type: number (0 to 9999), day (0 to 999) or flag (0 to 1)": in each way in which a value comes in. */
    private static void typesHaveRanges() {
        for (int type = 0; type < 3; type++) {
            String table = "table;column a " + Texts.TYPES[type] + ";";
            int greatest = Texts.GREATEST[type];
            PreparedPlans x = Checks.loaded(table + Texts.rows(0, greatest) + "prepare p a=?0;");
            same("the type", x.column(0, 0), type);
            same("the least of a row", x.value(0, 0), 0);
            same("the greatest of a row", x.value(1, 0), greatest);
            Checks.error(PreparedPlans.OUT_OF_RANGE, table + "row ^" + (greatest + 1) + ";");
            for (String sign : SIGNS) {
                Checks.right(1, table + "prepare p a" + sign + "0;");
                Checks.right(1, table + "prepare p a" + sign + greatest + ";");
                Checks.error(PreparedPlans.OUT_OF_RANGE, table + "prepare p a" + sign + "^" + (greatest + 1) + ";");
            }
            same("the least of a hole", x.rows(0, 0, 0, 0, 0), 1);
            same("the greatest of a hole", x.rows(0, greatest, 0, 0, 0), 2);
            Checks.fails("a hole below", Checks.ARGUMENT, () -> x.rows(0, -1, 0, 0, 0));
            Checks.fails("a hole above", Checks.ARGUMENT, () -> x.rows(0, greatest + 1, 0, 0, 0));
            same("insert the least", x.insert(0, 0, 0, 0, 0), 3);
            same("insert the greatest", x.insert(greatest, 0, 0, 0, 0), 4);
            same("the greatest that was inserted", x.value(3, 0), greatest);
            Checks.fails("insert below", Checks.ARGUMENT, () -> x.insert(-1, 0, 0, 0, 0));
            Checks.fails("insert above", Checks.ARGUMENT, () -> x.insert(greatest + 1, 0, 0, 0, 0));
            same("nothing more", x.count(1), 4);
        }
        Checks.error(PreparedPlans.SYNTAX_ERROR, "table;column a ^text;");
        Checks.error(PreparedPlans.SYNTAX_ERROR, "table;column a ^numbers;");
        Checks.error(PreparedPlans.SYNTAX_ERROR, "table;column a ^fla;");
    }

    /** "There are at most 40 rows": from the text and by insert. */
    private static void atMostFortyRows() {
        String table = "table;column a day;";
        for (int rows : new int[] {0, 1, 39, 40}) {
            PreparedPlans x = Checks.loaded(table + "row 7;".repeat(rows));
            same("rows of the text", x.count(1), rows);
            Checks.fails("the row behind", Checks.INDEX, () -> x.value(rows, 0));
            Checks.fails("delete of the row behind", Checks.INDEX, () -> x.delete(rows));
        }
        Checks.error(PreparedPlans.TOO_MANY, table + "row 7;".repeat(40) + "^row 7;");
        Checks.error(PreparedPlans.TOO_MANY, table + "row 7;".repeat(40) + " ^row 1000;");
        PreparedPlans x = Checks.loaded(table + "row 7;".repeat(39));
        same("a 40th row", x.insert(8, 0, 0, 0, 0), 40);
        same("its value", x.value(39, 0), 8);
        Checks.fails("a 41st row", Checks.STATE, () -> x.insert(9, 0, 0, 0, 0));
        same("40 rows", x.count(1), 40);
        same("one less", x.delete(0), 39);
        same("a 40th row again", x.insert(9, 0, 0, 0, 0), 40);
        same("the last one", x.value(39, 0), 9);
        same("the one before", x.value(38, 0), 8);
    }

    /** "at most 40 rows, with indexes from 0 in the order in which they were made; a row has a value for each column" */
    private static void rowsAreInTheOrderInWhichTheyWereMade() {
        PreparedPlans x = Checks.loaded(Texts.columns(5, "day") + "row 1 2 3 4 5;row 6 7 8 9 10;");
        x.insert(11, 12, 13, 14, 15);
        for (int row = 0; row < 3; row++) {
            for (int column = 0; column < 5; column++) {
                same("value(" + row + ", " + column + ")", x.value(row, column), 5 * row + column + 1);
            }
        }
    }

    /** "If a row is deleted, the indexes of those behind it become smaller by 1." */
    private static void deleteMovesTheRowsBehind() {
        for (int deleted : new int[] {0, 1, 20, 38, 39}) {
            PreparedPlans x = Texts.full();
            same("rows", x.delete(deleted), 39);
            for (int row = 0; row < 39; row++) {
                same("row " + row + " without " + deleted, x.value(row, 0), row < deleted ? row : row + 1);
            }
            same("the set of rows", x.rows(0, 39, 0, 0, 0), deleted == 39 ? 0 : 1L << 38);
        }
    }

    /** "There are at most 6 prepared statements, with indexes from 0." */
    private static void atMostSixStatements() {
        String table = "table;column a day;";
        for (int statements = 0; statements <= 6; statements++) {
            PreparedPlans x = new PreparedPlans();
            same("load", Checks.load(x, table + Texts.prepares(statements, "a=1")), statements);
            same("statements", x.count(2), statements);
            for (int i = 0; i < statements; i++) {
                same("the name of " + i, Checks.named(x, "" + (char) ('p' + i)), i);
                same("a run of " + i, x.run(i, 0, 0, 0, 0), 0);
                same("its runs", x.statement(i, 0), 1);
            }
            int behind = statements;
            Checks.fails("the one behind", Checks.INDEX, () -> x.kept(behind));
            Checks.fails("the one before", Checks.INDEX, () -> x.kept(-1));
        }
        Checks.error(PreparedPlans.TOO_MANY, table + Texts.prepares(6, "a=1") + "^prepare v a=1;");
        Checks.error(PreparedPlans.TOO_MANY, table + Texts.prepares(6, "a=1") + "  ^prepare p a=1;");
    }

    /** "There are the holes 0 to 3" */
    private static void holesZeroToThree() {
        for (int hole = 0; hole < 4; hole++) {
            PreparedPlans x = Checks.loaded("table;column a day;row 5;prepare p a=?" + hole + ";");
            for (int other = 0; other < 4; other++) {
                same("hole " + other, x.hole(0, other), other == hole ? 1 : -1);
                int[] v = {0, 0, 0, 0};
                v[other] = 5;
                if (other == hole) {
                    same("found with " + hole, x.rows(0, v[0], v[1], v[2], v[3]), 1);
                } else {
                    Checks.fails("no hole " + other, Checks.ARGUMENT, () -> x.rows(0, v[0], v[1], v[2], v[3]));
                }
            }
        }
        Checks.error(PreparedPlans.OUT_OF_RANGE, "table;column a day;prepare p a=?^4;");
        PreparedPlans all = Checks.loaded("table;column a number;column b day;column c flag;row 4 3 1;"
                + "prepare p a=?0 and b=?1 and c=?2 and a>?3;");
        int[] types = {0, 1, 2, 0};
        for (int hole = 0; hole < 4; hole++) {
            same("all holes, " + hole, all.hole(0, hole), types[hole]);
        }
        same("all holes", all.rows(0, 4, 3, 1, 3), 1);
        same("but the last", all.rows(0, 4, 3, 1, 4), 0);
    }

    /** "a hole of a statement has the type of the columns with which it is compared in this statement" */
    private static void holesHaveTheTypeOfTheirStatement() {
        PreparedPlans x = Checks.loaded(Texts.TABLE + "prepare p a=?0;prepare q b=?0 or b>?0;prepare r c<?0;prepare s a=1;");
        int[] due = {0, 1, 2, -1};
        int[] greatest = {9999, 999, 1, 0};
        for (int i = 0; i < 4; i++) {
            int statement = i;
            same("type in " + i, x.hole(i, 0), due[i]);
            same("the greatest in " + i, x.run(i, greatest[i], 0, 0, 0), 0);
            Checks.fails("above it in " + i, Checks.ARGUMENT, () -> x.run(statement, greatest[statement] + 1, 0, 0, 0));
            Checks.fails("below 0 in " + i, Checks.ARGUMENT, () -> x.run(statement, -1, 0, 0, 0));
        }
        same("also where nothing is sargable", Checks.loaded(Texts.TABLE + "prepare p not (c=1 or c=?3);").hole(0, 3), 2);
    }

    /** "comparisons of a column with a number, with another column of the same type, or with a hole" */
    private static void comparisonsHold() {
        String text = "table;column a day;column b day;row 4 5;row 5 5;row 6 5;prepare p a";
        int[] due = {1, 2, 4};
        for (int i = 0; i < 3; i++) {
            same("number " + SIGNS[i], Checks.loaded(text + SIGNS[i] + "5;").rows(0, 0, 0, 0, 0), due[i]);
            same("column " + SIGNS[i], Checks.loaded(text + SIGNS[i] + "b;").rows(0, 0, 0, 0, 0), due[i]);
            same("hole " + SIGNS[i], Checks.loaded(text + SIGNS[i] + "?2;").rows(0, 0, 0, 5, 0), due[i]);
        }
        same("nothing is below 0", Checks.loaded(text + "<?0;").rows(0, 0, 0, 0, 0), 0);
        same("nothing is above 999", Checks.loaded(text + ">?0;").rows(0, 999, 0, 0, 0), 0);
    }

    /** The cost of the plan by a is 2 (a=1: 4 rows, 3 values) if the comparison is sargable, otherwise -1. */
    private static void isSargable(boolean isIt, String condition) {
        PreparedPlans x = Checks.loaded("table;column a day;column b day;index a;row 1 1;row 2 2;row 3 3;row 3 4;prepare p "
                + condition + ";cost 9 0 1;");
        same("generic cost by a of " + condition, x.genericCost(0, 0), isIt ? 2 : -1);
        same("special cost by a of " + condition, x.specialCost(0, 0, x.hole(0, 0) < 0 ? 0 : 1, 0, 0, 0), isIt ? 2 : -1);
        same("plan of " + condition, x.special(0, x.hole(0, 0) < 0 ? 0 : 1, 0, 0, 0), isIt ? 0 : -1);
    }

    /** "A comparison is sargable if it stands by itself, or as a part of an and that is the whole condition (..)" */
    private static void sargable() {
        isSargable(true, "a=1");
        isSargable(true, "a=?0");
        isSargable(true, "(a=1)");
        isSargable(true, "((((((a=?0))))))");
        isSargable(true, "a=1 and b=1");
        isSargable(true, "b=1 and a=1");
        isSargable(true, "b=1 and b=2 and a=1");
        isSargable(true, "b=1 and (b=2 and a=1)");
        isSargable(true, "(b=1 and (b=2 and (b=3 and (a=1))))");
        isSargable(true, "(b=1 or b=2) and a=1");
        isSargable(true, "a=1 and (b=1 or b=2) and not b=3");
        isSargable(true, "a=1 and not a=2");
        isSargable(true, "a=1 and a=b");
        isSargable(false, "a=1 or b=1");
        isSargable(false, "b=1 or a=1");
        isSargable(false, "a=1 or a=1");
        isSargable(false, "(a=1 or b=1)");
        isSargable(false, "a=1 and b=1 or b=2");
        isSargable(false, "b=1 or a=1 and b=2");
        isSargable(false, "b=1 and (a=1 or b=2)");
        isSargable(false, "b=1 and (b=2 and (b=3 or a=1))");
        isSargable(false, "not a=1");
        isSargable(false, "not not a=1");
        isSargable(false, "not (a=1)");
        isSargable(false, "not (b=1 and a=1)");
        isSargable(false, "b=1 and not a=1");
        isSargable(false, "b=1 and (b=2 and not (a=1))");
        isSargable(false, "a=b");
        isSargable(false, "b=a");
        isSargable(false, "a=a");
        isSargable(false, "b=1");
    }

    private static void columnIs(String when, PreparedPlans x, int different, int least, int greatest) {
        same(when + ": different", x.column(0, 2), different);
        same(when + ": least", x.column(0, 3), least);
        same(when + ": greatest", x.column(0, 4), greatest);
    }

    /** "The statistics tell the number of rows, and for each column how many different values it has, its least and greatest" */
    private static void statisticsTellTheTable() {
        int[][] rows = {{5}, {5, 5}, {5, 6}, {6, 5}, {0, 999}, {999, 0, 0}, {3, 2, 1, 2, 3}, {7, 9, 8, 9, 7, 8}, {0}, {999}};
        int[][] due = {{1, 5, 5}, {1, 5, 5}, {2, 5, 6}, {2, 5, 6}, {2, 0, 999}, {2, 0, 999}, {3, 1, 3}, {3, 7, 9}, {1, 0, 0}, {1, 999, 999}};
        for (int i = 0; i < rows.length; i++) {
            PreparedPlans x = Checks.loaded("table;column a day;" + Texts.rows(rows[i]));
            same("rows", x.count(8), rows[i].length);
            columnIs("statistics " + i, x, due[i][0], due[i][1], due[i][2]);
        }
        PreparedPlans y = Checks.loaded(Texts.columns(5, "day") + "row 1 2 3 4 5;row 1 3 3 9 4;");
        int[][] each = {{1, 1, 1}, {2, 2, 3}, {1, 3, 3}, {2, 4, 9}, {2, 4, 5}};
        for (int column = 0; column < 5; column++) {
            for (int what = 2; what < 5; what++) {
                same("column " + column + ", " + what, y.column(column, what), each[column][what - 2]);
            }
        }
    }

    /** "(these three are 0 without rows)" */
    private static void statisticsWithoutRows() {
        PreparedPlans x = Checks.loaded("table;column a day;");
        same("rows", x.count(8), 0);
        columnIs("without rows", x, 0, 0, 0);
        PreparedPlans y = Checks.loaded("table;column a day;row 5;");
        y.delete(0);
        columnIs("still", y, 1, 5, 5);
        y.analyze();
        same("rows, taken anew", y.count(8), 0);
        columnIs("without rows, taken anew", y, 0, 0, 0);
        y.insert(4, 0, 0, 0, 0);
        y.analyze();
        columnIs("with a row again", y, 1, 4, 4);
        Checks.load(y, "table;column a day;");
        columnIs("after a text without rows", y, 0, 0, 0);
    }

    private static void statisticsOfAFullTable() {
        PreparedPlans x = Texts.full();
        columnIs("not yet", x, 0, 0, 0);
        x.analyze();
        same("40 rows", x.count(8), 40);
        columnIs("40 values", x, 40, 0, 39);
        PreparedPlans y = Checks.loaded("table;column a number;" + "row 9999;".repeat(39) + "row 9998;");
        columnIs("2 values in 40 rows", y, 2, 9998, 9999);
    }

    /** "all as they were when they were taken: when the text was loaded, and then at each call of analyze" */
    private static void statisticsAreAsTheyWereTaken() {
        PreparedPlans x = Checks.loaded("table;column a day;" + Texts.rows(4, 6) + "prepare p a=1;");
        x.insert(1, 0, 0, 0, 0);
        x.insert(9, 0, 0, 0, 0);
        x.setIndex(0, true);
        x.run(0, 0, 0, 0, 0);
        x.delete(1);
        same("rows then", x.count(8), 2);
        columnIs("as loaded", x, 2, 4, 6);
        x.analyze();
        same("rows now", x.count(8), 3);
        columnIs("taken anew", x, 3, 1, 9);
        x.delete(0);
        x.delete(0);
        columnIs("as at analyze", x, 3, 1, 9);
        x.undo();
        x.undo();
        x.undo();
        same("rows after undo", x.count(8), 2);
        columnIs("undo brings them back", x, 2, 4, 6);
    }

    /** "The version is 0 at first, and becomes greater by 1 at each call of analyze and each call of setIndex that changes something." */
    private static void versions() {
        PreparedPlans x = new PreparedPlans();
        same("at first", x.count(3), 0);
        same("analyze without a table", x.analyze(), 1);
        Checks.load(x, Texts.SHOP);
        same("after load", x.count(3), 0);
        x.insert(0, 0, 0, 0, 0);
        x.delete(0);
        x.run(0, 0, 0, 0, 0);
        x.setIndex(0, true);
        x.setIndex(2, false);
        Checks.load(x, "table");
        same("nothing of that", x.count(3), 0);
        x.setIndex(0, false);
        same("an index less", x.count(3), 1);
        x.setIndex(0, true);
        same("and more", x.count(3), 2);
        same("analyze", x.analyze(), 3);
        same("analyze again, though nothing is new", x.analyze(), 4);
        same("count", x.count(3), 4);
        for (int version = 3; version >= 0; version--) {
            x.undo();
            same("undo", x.count(3), version);
        }
    }

    /** The estimate is the cost of the plan by a, with probe 0 and fetch 1 and 100 percent learned. */
    private static long unseen(String rows, String sign) {
        return Checks.loaded("table;column a number;index a;" + rows + "prepare p a" + sign + "?0;cost 1 0 1;").genericCost(0, 0);
    }

    /** The estimate with a value must be the same for that of a hole, and for a number, which generic plans see too. */
    private static void estimate(String rows, String sign, int value, int due) {
        String text = "table;column a number;index a;" + rows + "prepare p a" + sign;
        String what = "estimate of a" + sign + value + " with " + rows;
        same(what + " in a hole", Checks.loaded(text + "?0;cost 1 0 1;").specialCost(0, 0, value, 0, 0, 0), due);
        PreparedPlans x = Checks.loaded(text + value + ";cost 1 0 1;");
        same(what, x.specialCost(0, 0, 0, 0, 0, 0), due);
        same(what + " in a generic plan", x.genericCost(0, 0), due);
    }

    private static void estimates(String rows, String sign, int[][] pairs) {
        for (int[] pair : pairs) {
            estimate(rows, sign, pair[0], pair[1]);
        }
    }

    /** "Without rows it is 0." */
    private static void estimatesWithoutRows() {
        for (String sign : SIGNS) {
            estimates("", sign, new int[][] {{0, 0}, {1, 0}, {9999, 0}});
            same("unseen " + sign, unseen("", sign), 0);
        }
    }

    /**
     * "for = it is 0 if v is below l or above g, otherwise n / d rounded up; for less n * (v - l) / (g - l + 1),
     * for greater n * (g - v) / (g - l + 1), both limited to the range 0 to n", with n = 5, d = 3, l = 10, g = 19.
     */
    private static void estimatesOfFiveRows() {
        String rows = Texts.rows(10, 10, 12, 19, 19);
        estimates(rows, "=", new int[][] {{0, 0}, {9, 0}, {10, 2}, {11, 2}, {18, 2}, {19, 2}, {20, 0}, {9999, 0}});
        estimates(rows, "<", new int[][] {{0, 0}, {8, 0}, {9, 0}, {10, 0}, {11, 0}, {12, 1}, {13, 1}, {14, 2}, {18, 4}, {19, 4},
            {20, 5}, {21, 5}, {22, 5}, {9999, 5}});
        estimates(rows, ">", new int[][] {{0, 5}, {7, 5}, {8, 5}, {9, 5}, {10, 4}, {11, 4}, {15, 2}, {16, 1}, {17, 1}, {18, 0},
            {19, 0}, {20, 0}, {21, 0}, {22, 0}, {9999, 0}});
    }

    /** The same with one value alone: g - l + 1 is 1. */
    private static void estimatesOfOneRow() {
        estimates("row 7;", "=", new int[][] {{6, 0}, {7, 1}, {8, 0}});
        estimates("row 7;", "<", new int[][] {{0, 0}, {6, 0}, {7, 0}, {8, 1}, {9, 1}, {9999, 1}});
        estimates("row 7;", ">", new int[][] {{0, 1}, {5, 1}, {6, 1}, {7, 0}, {8, 0}, {9999, 0}});
        estimates("row 7;row 7;row 7;", "=", new int[][] {{6, 0}, {7, 3}, {8, 0}});
        estimates("row 7;row 7;row 7;", "<", new int[][] {{7, 0}, {8, 3}, {9, 3}});
        estimates("row 7;row 7;row 7;", ">", new int[][] {{7, 0}, {6, 3}, {5, 3}});
    }

    /** The same with the least and the greatest value of a type as l and g: nothing is below l or above g. */
    private static void estimatesAtTheEndsOfTheRange() {
        String rows = Texts.rows(0, 9999);
        estimates(rows, "=", new int[][] {{0, 1}, {5000, 1}, {9999, 1}});
        estimates(rows, "<", new int[][] {{0, 0}, {4999, 0}, {5000, 1}, {9999, 1}});
        estimates(rows, ">", new int[][] {{0, 1}, {4999, 1}, {5000, 0}, {9999, 0}});
        String forty = "row 0;".repeat(39) + "row 9999;";
        estimates(forty, "<", new int[][] {{0, 0}, {249, 0}, {250, 1}, {9999, 39}});
        estimates(forty, ">", new int[][] {{0, 39}, {9749, 1}, {9750, 0}, {9999, 0}});
        estimates("row 0;", ">", new int[][] {{0, 0}, {1, 0}, {9999, 0}});
        estimates("row 9999;", "<", new int[][] {{0, 0}, {9998, 0}, {9999, 0}});
    }

    /** "n / d rounded up", with and without a remainder, seen and not. */
    private static void estimatesOfEqualAreRoundedUp() {
        int[][] rows = {{1}, {1, 1}, {1, 2}, {1, 1, 2}, {1, 2, 3}, {1, 1, 2, 2}, {1, 1, 1, 2, 3}, {1, 1, 2, 2, 3, 3}, {1, 1, 2, 2, 3, 3, 3}};
        int[] due = {1, 2, 1, 2, 1, 2, 2, 2, 3};
        for (int i = 0; i < rows.length; i++) {
            estimate(Texts.rows(rows[i]), "=", 1, due[i]);
            same("unseen " + i, unseen(Texts.rows(rows[i]), "="), due[i]);
        }
        same("40 rows of one value", unseen("row 1;".repeat(40), "="), 40);
        same("40 rows of two values", unseen("row 1;".repeat(39) + "row 2;", "="), 20);
        same("40 rows of three values", unseen("row 1;".repeat(38) + "row 2;row 3;", "="), 14);
    }

    /** "With a hole whose value is not seen: for = it is n / d rounded up, otherwise (n + 2) / 3." */
    private static void estimatesUnseen() {
        int[] rows = {1, 2, 3, 4, 5, 6, 7, 39, 40};
        int[] due = {1, 1, 1, 2, 2, 2, 3, 13, 14};
        for (int i = 0; i < rows.length; i++) {
            same("less, " + rows[i] + " rows", unseen("row 5;".repeat(rows[i]), "<"), due[i]);
            same("greater, " + rows[i] + " rows", unseen("row 5;".repeat(rows[i]), ">"), due[i]);
            same("equal, " + rows[i] + " rows", unseen("row 5;".repeat(rows[i]), "="), rows[i]);
        }
    }
}
