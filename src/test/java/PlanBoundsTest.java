/** The boundary cases that the document's sections Plans and Runs name; each method quotes its sentence. */
public final class PlanBoundsTest {
    /** One value in one row, so that a=?0 with it expects one row; the scan costs 99. */
    private static final String ONE = "table;column a day;index a;row 1;prepare p a=?0;cost 99 0 1;tries 99;";
    /** a=?0 expects 2 rows from 1 to 2, and none outside; by the index that costs 3 or 1, by a scan 27. */
    private static final String THREE = "table;column a day;index a;row 1;row 1;row 2;prepare p a=?0;cost 9 1 1;";

    public static void main(String[] args) {
        plansThatAStatementHas();
        aPlanNeedsItsIndex();
        costOfAScan();
        costByAColumn();
        costsAreTruncated();
        theSmallestEstimateIsChosen();
        theFirstOfEqualEstimatesIsChosen();
        theBestPlan();
        theScanIsFirst();
        theSmallestColumnIsFirst();
        genericPlansDoNotSeeHoles();
        fewerRunsThanTries();
        triesAtTheirEnds();
        genericPlansAreMade();
        genericPlansBecomeStale();
        unusedGenericPlansAreKept();
        atMostTheSumOfCosts();
        noneWereSpecial();
        costsWhenTheyWereMade();
        scansTouchAllRows();
        columnsTouchTheirComparison();
        genericPlansTouchTheirComparison();
        learnedPercentages();
        learnedAtTheLimits();
        learnedWithoutAnEstimate();
        rowsDoNotDependOnThePlan();
        manyRuns();
        Checks.end("PlanBoundsTest");
    }

    private static void same(String what, long got, long due) {
        Checks.same(what, got, due);
    }

    private static void runs(PreparedPlans x, int count, int value) {
        for (int i = 0; i < count; i++) {
            x.run(0, value, 0, 0, 0);
        }
    }

    /** "A plan is a scan (-1), or the index of a column that has an index and of which the condition has a sargable comparison." */
    private static void plansThatAStatementHas() {
        String text = Texts.columns(5, "day") + "index a;index b;index e;row 1 1 1 1 1;"
                + "prepare p a=1 and c=1 and e=1;prepare q not a=1;prepare r b=?0 and (a=1 or e=1);";
        int[][] due = {{1, 5, -1, -1, -1, 5}, {1, -1, -1, -1, -1, -1}, {1, -1, 5, -1, -1, -1}};
        PreparedPlans x = Checks.loaded(text);
        for (int statement = 0; statement < 3; statement++) {
            int hole = statement == 2 ? 1 : 0;
            for (int plan = -1; plan < 5; plan++) {
                same("generic cost of " + statement + " by " + plan, x.genericCost(statement, plan), due[statement][plan + 1]);
                same("special cost of " + statement + " by " + plan, x.specialCost(statement, plan, hole, 0, 0, 0), due[statement][plan + 1]);
            }
        }
    }

    private static void aPlanNeedsItsIndex() {
        PreparedPlans x = Checks.loaded("table;column a day;row 1;prepare p a=?0;cost 9 0 1;");
        same("no index", x.genericCost(0, 0), -1);
        same("no index, special", x.specialCost(0, 0, 1, 0, 0, 0), -1);
        same("the scan", x.special(0, 1, 0, 0, 0), -1);
        x.setIndex(0, true);
        same("an index", x.genericCost(0, 0), 1);
        same("an index, special", x.specialCost(0, 0, 1, 0, 0, 0), 1);
        same("the index", x.special(0, 1, 0, 0, 0), 0);
        x.setIndex(0, false);
        same("none again", x.genericCost(0, 0), -1);
        same("the scan again", x.special(0, 1, 0, 0, 0), -1);
    }

    /** "The cost of a scan is scan * n (the rows of the statistics)." */
    private static void costOfAScan() {
        int[] rows = {0, 1, 39, 40};
        for (int scan : new int[] {0, 1, 98, 99}) {
            for (int count : rows) {
                PreparedPlans x = Checks.loaded("table;column a day;" + "row 7;".repeat(count) + "prepare p a=?0;cost " + scan + " 9 9;");
                same("scan", x.specialCost(0, -1, 0, 0, 0, 0), scan * count);
                same("scan, generic", x.genericCost(0, -1), scan * count);
                if (count > 0) {
                    x.delete(0);
                }
                x.delete(x.insert(7, 0, 0, 0, 0) - 1);
                same("the rows of the statistics", x.genericCost(0, -1), scan * count);
                x.analyze();
                same("taken anew", x.genericCost(0, -1), scan * Math.max(0, count - 1));
            }
        }
    }

    /** "The cost of a plan by a column is probe + fetch * e" */
    private static void costByAColumn() {
        int[][] costs = {{0, 0}, {0, 99}, {99, 0}, {99, 99}, {1, 1}, {7, 5}};
        for (int[] cost : costs) {
            for (int rows : new int[] {0, 1, 40}) {
                PreparedPlans x = Checks.loaded("table;column a day;index a;" + "row 7;".repeat(rows) + "prepare p a=7;cost 99 "
                        + cost[0] + " " + cost[1] + ";");
                same("by a", x.genericCost(0, 0), cost[0] + cost[1] * rows);
                same("by a, special", x.specialCost(0, 0, 0, 0, 0, 0), cost[0] + cost[1] * rows);
            }
        }
    }

    /** "e is (the estimate of the chosen comparison * the learned percentage of this statement and column) / 100" */
    private static void costsAreTruncated() {
        String text = ONE.replace("cost 99 0 1", "cost 99 10 7");
        // estimate 1, no row touched: 75, 56, 42 percent; 1 * 75 / 100 = 0
        PreparedPlans less = Checks.loaded(text);
        less.delete(0);
        runs(less, 1, 1);
        same("75 percent", less.learned(0, 0), 75);
        same("0 rows", less.specialCost(0, 0, 1, 0, 0, 0), 10);
        // 4 rows touched: 175, 231 percent
        PreparedPlans more = Checks.loaded(text);
        for (int i = 0; i < 3; i++) {
            more.insert(1, 0, 0, 0, 0);
        }
        runs(more, 1, 1);
        same("175 percent", more.learned(0, 0), 175);
        same("1 row", more.specialCost(0, 0, 1, 0, 0, 0), 17);
        runs(more, 1, 1);
        same("231 percent", more.learned(0, 0), 231);
        same("2 rows", more.specialCost(0, 0, 1, 0, 0, 0), 24);
        same("2 rows, generic", more.genericCost(0, 0), 24);
        same("none outside", more.specialCost(0, 0, 2, 0, 0, 0), 10);
    }

    /** The rows that the best comparison expects, with probe 0 and fetch 1: 8 rows, 4 values, least 1, greatest 8. */
    private static void chosen(String condition, int hole, int special, int generic) {
        PreparedPlans x = Checks.loaded("table;column a day;column b day;index a;"
                + "row 1 1;row 1 2;row 1 1;row 1 2;row 1 1;row 3 2;row 5 1;row 8 2;prepare p " + condition + ";cost 99 0 1;");
        same("special cost of " + condition, x.specialCost(0, 0, hole, 0, 0, 0), special);
        same("generic cost of " + condition, x.genericCost(0, 0), generic);
    }

    /** "the chosen comparison is the sargable one of the column with the smallest estimate" */
    private static void theSmallestEstimateIsChosen() {
        chosen("a=3", 0, 2, 2);
        chosen("a=3 and a<2", 0, 1, 1);
        chosen("a<2 and a=3", 0, 1, 1);
        chosen("a=3 and a<2 and a>8", 0, 0, 0);
        chosen("a>8 and a=3 and a<2", 0, 0, 0);
        chosen("a=3 and a>8 and a<2", 0, 0, 0);
        chosen("a=3 and b=9", 0, 2, 2);
        chosen("a=3 and (a>8 or b=1)", 0, 2, 2);
        chosen("a=3 and not a>8", 0, 2, 2);
        chosen("a<?0", 8, 7, 3);
        chosen("a<?0", 3, 2, 3);
        chosen("a<?0 and a=3", 1, 0, 2);
        chosen("a<?0 and a<7", 9, 6, 3);
        chosen("a=?0 and a<?0", 8, 2, 2);
        chosen("a=?0 and a<?0", 2, 1, 2);
    }

    /** "of several the first one in the condition": the rows that a run touches tell which one it is. */
    private static void theFirstOfEqualEstimatesIsChosen() {
        String text = "table;column a day;index a;" + Texts.rows(1, 1, 1, 2, 4, 4) + "prepare p ";
        // a=1, a=2, a=4 all expect 2 of 6 rows, and are true for 3, 1 and 2 of them; a<3 expects 3
        String[] conditions = {"a=1 and a=2 and a=4", "a=2 and a=1", "a=4 and a=1 and a=2", "(a=4) and a=1", "a=2 and (a=1 and a=4)",
            "(a=1 and a=2) and a=4", "a<3 and a=2 and a=1", "a<3 and a=1 and a=2", "a=2 and a<3 and a=1", "a=4 and a=2 and a=1"};
        int[] due = {3, 1, 2, 2, 1, 3, 1, 3, 1, 2};
        for (int i = 0; i < conditions.length; i++) {
            PreparedPlans x = Checks.loaded(text + conditions[i] + ";cost 99 0 1;");
            x.run(0, 0, 0, 0, 0);
            same("touched by " + conditions[i], x.statement(0, 5), due[i]);
            PreparedPlans generic = Checks.loaded(text + conditions[i] + ";cost 99 0 1;tries 0;");
            generic.run(0, 0, 0, 0, 0);
            same("touched by generic " + conditions[i], generic.statement(0, 5), due[i]);
        }
    }

    /** "The best plan is that with the smallest cost": a=1 expects 3 of 3 rows, b=1 expects 2, c=1 expects 1. */
    private static void theBestPlan() {
        String table = "table;column a day;column b day;column c day;";
        String rest = "row 1 1 1;row 1 1 2;row 1 2 3;prepare p a=1 and b=1 and c=1;cost ";
        String[] indexes = {"", "index a;", "index b;", "index c;", "index a;index b;", "index b;index a;", "index a;index c;",
            "index b;index c;", "index a;index b;index c;"};
        int[] due = {-1, 0, 1, 2, 1, 1, 2, 2, 2};
        for (int i = 0; i < indexes.length; i++) {
            PreparedPlans x = Checks.loaded(table + indexes[i] + rest + "9 0 1;tries 0;");
            same("best with " + indexes[i], x.special(0, 0, 0, 0, 0), due[i]);
            same("generic with " + indexes[i], x.wouldUse(0, 0, 0, 0, 0), 2 * (due[i] + 1) + 1);
        }
    }

    /** "of several a scan": 3 rows by a scan of 1, and by the index 3, 2 or 4. */
    private static void theScanIsFirst() {
        String text = "table;column a day;index a;row 1;row 2;row 3;prepare p a=1;cost 1 ";
        int[][] due = {{1, 0}, {2, -1}, {3, -1}};
        for (int[] pair : due) {
            PreparedPlans special = Checks.loaded(text + pair[0] + " 1;");
            same("probe " + pair[0], special.special(0, 0, 0, 0, 0), pair[1]);
            PreparedPlans generic = Checks.loaded(text + pair[0] + " 1;tries 0;");
            generic.run(0, 0, 0, 0, 0);
            same("probe " + pair[0] + ", generic", generic.kept(0), pair[1]);
        }
        PreparedPlans nothing = Checks.loaded("table;column a day;index a;prepare p a=1;cost 0 0 0;");
        same("all cost nothing", nothing.special(0, 0, 0, 0, 0), -1);
        same("a scan of no rows", Checks.loaded("table;column a day;index a;prepare p a=1;cost 99 0 1;").special(0, 0, 0, 0, 0), -1);
    }

    /** "then the smallest column" */
    private static void theSmallestColumnIsFirst() {
        String table = Texts.columns(5, "day");
        String rest = "row 1 1 1 1 1;row 2 2 2 2 2;prepare p e=1 and d=1 and c=1 and b=1 and a=1;cost 9 0 1;tries ";
        String[] indexes = {"index e;", "index e;index d;", "index d;index e;index c;", "index c;index b;", "index e;index a;",
            "index e;index d;index c;index b;index a;"};
        int[] due = {4, 3, 2, 1, 0, 0};
        for (int i = 0; i < indexes.length; i++) {
            same("first of " + indexes[i], Checks.loaded(table + indexes[i] + rest + "9;").special(0, 0, 0, 0, 0), due[i]);
            PreparedPlans generic = Checks.loaded(table + indexes[i] + rest + "0;");
            generic.run(0, 0, 0, 0, 0);
            same("first generic of " + indexes[i], generic.kept(0), due[i]);
        }
    }

    /** "A special plan of a run is the best plan with all values seen; the generic plan of a statement is the best plan without the values of holes." */
    private static void genericPlansDoNotSeeHoles() {
        // a=?0 unseen expects 3 of 3 rows, b=2 expects 2; a=?0 with 2 expects none
        String text = "table;column a day;column b day;index a;index b;row 1 1;row 1 2;row 1 2;prepare p a=?0 and b=2;cost 9 0 1;";
        PreparedPlans x = Checks.loaded(text + "tries 1;");
        same("special outside", x.special(0, 2, 0, 0, 0), 0);
        same("special inside", x.special(0, 1, 0, 0, 0), 1);
        x.run(0, 1, 0, 0, 0);
        same("generic, whatever the value", x.wouldUse(0, 2, 0, 0, 0), 5);
        x.run(0, 2, 0, 0, 0);
        same("kept", x.kept(0), 1);
        same("a special plan sees as before", x.special(0, 2, 0, 0, 0), 0);
    }

    /** "If the statement had fewer than tries runs before, the run uses a special plan." */
    private static void fewerRunsThanTries() {
        for (int tries : new int[] {0, 1, 2, 5, 98, 99}) {
            PreparedPlans x = Checks.loaded("table;column a day;row 1;prepare p a=?0;prepare q a=1;tries " + tries + ";");
            for (int before = 0; before < tries; before++) {
                same(tries + " tries after " + before, x.wouldUse(0, 1, 0, 0, 0), 0);
                x.run(0, 1, 0, 0, 0);
            }
            same(tries + " tries, none generic", x.statement(0, 3), 0);
            same(tries + " tries, all special", x.statement(0, 1), tries);
            same(tries + " tries, none kept", x.kept(0), -2);
            same(tries + " tries are over", x.wouldUse(0, 1, 0, 0, 0), 1);
            x.run(0, 1, 0, 0, 0);
            same(tries + " tries, one generic", x.statement(0, 3), 1);
            same(tries + " tries, no special more", x.statement(0, 1), tries);
            same(tries + " tries, another statement has its own", x.wouldUse(1, 0, 0, 0, 0), tries == 0 ? 1 : 0);
        }
    }

    private static void triesAtTheirEnds() {
        PreparedPlans x = Checks.loaded("table;column a day;row 1;prepare p a=1;");
        runs(x, 3, 0);
        same("without tries there are 3", x.statement(0, 3), 0);
        runs(x, 1, 0);
        same("the fourth is generic", x.statement(0, 3), 1);
        x.undo();
        same("undo gives the run back", x.statement(0, 0), 3);
        x.undo();
        same("a try again", x.wouldUse(0, 0, 0, 0, 0), 0);
    }

    /** "if the statement keeps no generic plan, or the one that it keeps is stale (..), the generic plan is made now, and is kept with its cost" */
    private static void genericPlansAreMade() {
        PreparedPlans x = Checks.loaded(THREE + "tries 0;");
        same("none", x.statement(0, 4), 0);
        runs(x, 1, 1);
        same("made", x.statement(0, 3), 1);
        same("kept", x.statement(0, 4), 1);
        runs(x, 5, 1);
        same("not made again", x.statement(0, 3), 1);
        x.analyze();
        same("not by analyze", x.statement(0, 3), 1);
        same("not by wouldUse", x.wouldUse(0, 1, 0, 0, 0), 3);
        same("stale still", x.statement(0, 4), 2);
        runs(x, 1, 1);
        same("made again", x.statement(0, 3), 2);
        same("fresh", x.statement(0, 4), 1);
        runs(x, 1, 1);
        same("not again", x.statement(0, 3), 2);
    }

    /** "(it was made with another version)" */
    private static void genericPlansBecomeStale() {
        PreparedPlans x = Checks.loaded(THREE + "tries 0;");
        runs(x, 1, 1);
        x.insert(5, 0, 0, 0, 0);
        x.delete(0);
        x.setIndex(0, true);
        same("fresh with the same version", x.statement(0, 4), 1);
        x.setIndex(0, false);
        same("stale without the index", x.statement(0, 4), 2);
        same("kept as it was", x.kept(0), 0);
        x.setIndex(0, true);
        same("stale with a version more", x.statement(0, 4), 2);
        x.undo();
        same("stale", x.statement(0, 4), 2);
        x.undo();
        same("fresh with the version again", x.statement(0, 4), 1);
        x.analyze();
        same("stale after analyze", x.statement(0, 4), 2);
        runs(x, 1, 1);
        same("fresh after a run", x.statement(0, 4), 1);
        x.undo();
        x.undo();
        same("fresh with the version that it was made with", x.statement(0, 4), 1);
        Checks.load(x, THREE);
        same("none in a new text", x.statement(0, 4), 0);
    }

    /** "then this generic plan is used if (..); otherwise a special plan is used": kept all the same. */
    private static void unusedGenericPlansAreKept() {
        PreparedPlans x = Checks.loaded(THREE + "tries 1;");
        // outside: cost 1, and 75 percent learned; the generic plan then costs 1 + 2 * 75 / 100 = 2
        runs(x, 1, 0);
        same("75 percent", x.learned(0, 0), 75);
        same("special", x.wouldUse(0, 0, 0, 0, 0), 2);
        runs(x, 1, 0);
        same("special again", x.statement(0, 1), 2);
        same("made", x.statement(0, 3), 1);
        same("kept", x.statement(0, 4), 1);
        same("kept plan", x.kept(0), 0);
        runs(x, 1, 0);
        same("not made again", x.statement(0, 3), 1);
        same("special for the third time", x.statement(0, 1), 3);
    }

    /** "used if its cost * the number of runs with special plans is at most the sum of their costs" */
    private static void atMostTheSumOfCosts() {
        // a<?0 with 3 to 6 expects 1 to 4 of 6 rows, and finds them, so that 100 percent stay; unseen it expects (6 + 2) / 3 = 2
        String text = "table;column a day;index a;" + Texts.rows(2, 3, 4, 5, 6, 7) + "prepare p a<?0;cost 99 0 1;tries ";
        int[][] values = {{3}, {4}, {5}, {3, 3}, {3, 4}, {3, 5}, {4, 4}, {4, 5}, {3, 4, 4}, {3, 4, 5}, {3, 3, 6}, {6, 6, 6}, {3, 4, 4, 4}, {3, 5, 4, 4}};
        boolean[] isGeneric = {false, true, true, false, false, true, true, true, false, true, true, true, false, true};
        for (int i = 0; i < values.length; i++) {
            PreparedPlans x = Checks.loaded(text + values[i].length + ";");
            int sum = 0;
            for (int value : values[i]) {
                sum += value - 2;
                x.run(0, value, 0, 0, 0);
            }
            same("the sum of " + i, x.statement(0, 2), sum);
            same("generic cost of " + i, x.genericCost(0, 0), 2);
            same("generic after " + i, x.wouldUse(0, 4, 0, 0, 0), isGeneric[i] ? 3 : 2);
            x.run(0, 4, 0, 0, 0);
            same("special runs after " + i, x.statement(0, 1), values[i].length + (isGeneric[i] ? 0 : 1));
            same("the sum after " + i, x.statement(0, 2), sum + (isGeneric[i] ? 0 : 2));
        }
    }

    /** "both are 0 if there were none" */
    private static void noneWereSpecial() {
        PreparedPlans x = Checks.loaded("table;column a day;" + "row 1;".repeat(40) + "prepare p a=1;cost 99 99 99;tries 0;");
        for (int i = 1; i <= 5; i++) {
            same("generic at any cost", x.wouldUse(0, 0, 0, 0, 0), 1);
            x.run(0, 0, 0, 0, 0);
            same("runs", x.statement(0, 0), i);
            same("none special", x.statement(0, 1), 0);
            same("no costs", x.statement(0, 2), 0);
        }
        x.analyze();
        same("also when made anew", x.wouldUse(0, 0, 0, 0, 0), 1);
    }

    /** "(of the costs that their plans had when they were made ..)": before the run has taught a percentage. */
    private static void costsWhenTheyWereMade() {
        PreparedPlans x = Checks.loaded(ONE.replace("cost 99 0 1", "cost 99 0 2"));
        for (int i = 0; i < 3; i++) {
            x.insert(1, 0, 0, 0, 0);
        }
        int[] percentages = {175, 231, 273, 304};
        int[] sums = {2, 4, 8, 12};
        for (int i = 0; i < 4; i++) {
            runs(x, 1, 1);
            same("percentage " + i, x.learned(0, 0), percentages[i]);
            same("sum " + i, x.statement(0, 2), sums[i]);
        }
        x.analyze();
        same("analyze leaves the sum", x.statement(0, 2), 12);
    }

    /** "A run by a scan touches all rows." */
    private static void scansTouchAllRows() {
        for (int rows : new int[] {0, 1, 2, 40}) {
            PreparedPlans x = Checks.loaded("table;column a day;" + "row 7;".repeat(rows) + "prepare p a=1;tries 1;");
            same("found", x.run(0, 0, 0, 0, 0), 0);
            same("touched by a special scan", x.statement(0, 5), rows);
            x.run(0, 0, 0, 0, 0);
            same("touched by a generic scan too", x.statement(0, 5), 2 * rows);
            same("nothing learned", x.learned(0, 0), 100);
        }
        PreparedPlans x = Checks.loaded("table;column a day;row 7;prepare p a=1;");
        x.insert(7, 0, 0, 0, 0);
        runs(x, 1, 0);
        same("rows that the statistics don't know", x.statement(0, 5), 2);
        x.delete(0);
        x.delete(0);
        runs(x, 1, 0);
        same("no rows", x.statement(0, 5), 2);
    }

    /** "A run by a column touches the rows for which the chosen comparison of its plan is true (with the values of the run)." */
    private static void columnsTouchTheirComparison() {
        String text = "table;column a day;column b day;index a;" + "row 1 1;row 2 1;row 3 2;row 4 2;prepare p a<?0 and b=2;cost 99 0 1;tries ";
        int[] due = {0, 0, 1, 2, 3, 4, 4};
        int[] found = {0, 0, 0, 0, 1, 2, 2};
        for (int value = 0; value < due.length; value++) {
            PreparedPlans special = Checks.loaded(text + "1;");
            same("found below " + value, special.run(0, value, 0, 0, 0), found[value]);
            same("touched below " + value, special.statement(0, 5), due[value]);
            PreparedPlans generic = Checks.loaded(text + "0;");
            same("generic found below " + value, generic.run(0, value, 0, 0, 0), found[value]);
            same("generic touched below " + value, generic.statement(0, 5), due[value]);
        }
        PreparedPlans x = Checks.loaded(text + "0;");
        x.insert(0, 0, 0, 0, 0);
        x.run(0, 2, 0, 0, 0);
        same("also rows that the statistics don't know", x.statement(0, 5), 2);
        x.delete(0);
        x.run(0, 2, 0, 0, 0);
        same("not deleted ones", x.statement(0, 5), 3);
    }

    /** "the chosen comparison of its plan": that of a generic plan is chosen without the values of holes. */
    private static void genericPlansTouchTheirComparison() {
        // 6 rows, 6 values: unseen a=?0 expects 1 and a<?1 expects (6 + 2) / 3 = 2; a<1 is seen to expect none
        String text = "table;column a day;index a;" + Texts.rows(1, 2, 3, 4, 5, 6) + "prepare p a<?1 and a=?0;cost 99 0 1;tries ";
        int[][] values = {{3, 1}, {3, 6}, {7, 4}, {0, 7}, {6, 0}};
        int[] special = {0, 1, 0, 0, 0};
        int[] generic = {1, 1, 0, 0, 1};
        for (int i = 0; i < values.length; i++) {
            PreparedPlans seen = Checks.loaded(text + "1;");
            seen.run(0, values[i][0], values[i][1], 0, 0);
            same("touched by special plan " + i, seen.statement(0, 5), special[i]);
            PreparedPlans unseen = Checks.loaded(text + "0;");
            unseen.run(0, values[i][0], values[i][1], 0, 0);
            same("touched by generic plan " + i, unseen.statement(0, 5), generic[i]);
            same("learned by generic plan " + i, unseen.learned(0, 0), generic[i] == 1 ? 100 : 75);
        }
        PreparedPlans kept = Checks.loaded(text + "0;");
        kept.run(0, 3, 6, 0, 0);
        kept.run(0, 3, 1, 0, 0);
        same("touched by the kept plan", kept.statement(0, 5), 2);
    }

    /** An object of ONE with so many rows of value 1, where the statistics know one of them. */
    private static PreparedPlans withRows(int count) {
        PreparedPlans x = Checks.loaded(ONE);
        for (int i = 1; i < count; i++) {
            x.insert(1, 0, 0, 0, 0);
        }
        if (count == 0) {
            x.delete(0);
        }
        return x;
    }

    /** "becomes (3 * it + p) / 4, where p is 100 * the number of rows touched / e'"; "At first it is 100." */
    private static void learnedPercentages() {
        int[] due = {75, 100, 125, 150, 175, 200};
        for (int rows = 0; rows < due.length; rows++) {
            PreparedPlans x = withRows(rows);
            same("at first", x.learned(0, 0), 100);
            runs(x, 1, 1);
            same(rows + " rows of 1", x.learned(0, 0), due[rows]);
        }
        PreparedPlans none = withRows(0);
        int[] less = {75, 56, 42, 31, 23, 17, 12, 9, 6, 4, 3, 2, 1, 0, 0};
        for (int i = 0; i < less.length; i++) {
            runs(none, 1, 1);
            same("less and less " + i, none.learned(0, 0), less[i]);
        }
        // a<?0 unseen expects (7 + 2) / 3 = 3 of 7 rows: 100 * 1 / 3 = 33, 100 * 2 / 3 = 66
        String text = "table;column a day;index a;" + Texts.rows(1, 2, 3, 4, 5, 6, 7) + "prepare p a<?0;cost 99 0 1;tries 0;";
        int[] percentages = {75, 83, 91, 100, 108, 116, 125, 133};
        for (int rows = 0; rows < percentages.length; rows++) {
            PreparedPlans x = Checks.loaded(text);
            runs(x, 1, rows + 1);
            same(rows + " rows of 3", x.learned(0, 0), percentages[rows]);
        }
    }

    /** "limited to the range 0 to 1000" */
    private static void learnedAtTheLimits() {
        int[] rows = {9, 10, 11, 12, 40};
        int[] due = {300, 325, 325, 325, 325};
        for (int i = 0; i < rows.length; i++) {
            PreparedPlans x = withRows(rows[i]);
            runs(x, 1, 1);
            same(rows[i] + " rows of 1", x.learned(0, 0), due[i]);
        }
        PreparedPlans most = withRows(40);
        int learned = 100;
        for (int i = 0; i < 40; i++) {
            runs(most, 1, 1);
            learned = (3 * learned + 1000) / 4;
            same("more and more " + i, most.learned(0, 0), learned);
        }
        same("it ends at 997", learned, 997);
        same("9 rows expected", most.specialCost(0, 0, 1, 0, 0, 0), 9);
        most.analyze();
        same("398 rows of 40 expected", most.specialCost(0, 0, 1, 0, 0, 0), 398);
        same("the percentage stays", most.learned(0, 0), 997);
    }

    /** "e' is the estimate of the chosen comparison as it was in the plan, but at least 1" */
    private static void learnedWithoutAnEstimate() {
        // a=2 is outside of the statistics: the estimate 0 counts 1
        int[] due = {75, 100, 125, 150};
        for (int rows = 0; rows < due.length; rows++) {
            PreparedPlans x = Checks.loaded(ONE);
            for (int i = 0; i < rows; i++) {
                x.insert(2, 0, 0, 0, 0);
            }
            same("estimate 0", x.specialCost(0, 0, 2, 0, 0, 0), 0);
            runs(x, 1, 2);
            same(rows + " rows of 0", x.learned(0, 0), due[rows]);
        }
        // the special plan of a<7 expects 6 * 5 / 6 = 5 and finds 5, the generic one (6 + 2) / 3 = 2: 250 percent
        String text = "table;column a day;index a;" + Texts.rows(2, 3, 4, 5, 6, 7) + "prepare p a<?0;cost 99 0 1;tries ";
        PreparedPlans special = Checks.loaded(text + "1;");
        runs(special, 1, 7);
        same("special", special.learned(0, 0), 100);
        PreparedPlans generic = Checks.loaded(text + "0;");
        runs(generic, 1, 7);
        same("generic", generic.learned(0, 0), 137);
    }

    /** "The rows found do not depend on the plan." */
    private static void rowsDoNotDependOnThePlan() {
        String table = "table;column a day;column b day;";
        String rest = "row 1 1;row 1 2;row 2 1;row 2 2;prepare p a=?0 and b<?1;";
        String[] texts = {table + rest, table + "index a;" + rest + "cost 9 0 1;", table + "index b;" + rest + "cost 9 0 1;",
            table + "index a;index b;" + rest + "cost 9 0 1;tries 0;"};
        for (String text : texts) {
            PreparedPlans x = Checks.loaded(text);
            for (int i = 0; i < 6; i++) {
                same("found by run " + i + " of " + text, x.run(0, 2, 3, 0, 0), 2);
                same("rows of " + text, x.rows(0, 2, 3, 0, 0), 12);
            }
            x.insert(2, 0, 0, 0, 0);
            same("found with a new row by " + text, x.run(0, 2, 3, 0, 0), 3);
        }
    }

    /** "An object is used for at most 512 calls": so many runs of the dearest scan, and their sums. */
    private static void manyRuns() {
        String rows = "table;column a day;" + "row 1;".repeat(40);
        PreparedPlans special = Checks.loaded(rows + "prepare p not a=1;cost 99 0 0;tries 99;");
        for (int i = 1; i <= 470; i++) {
            same("run " + i, special.run(0, 0, 0, 0, 0), 0);
        }
        same("runs", special.statement(0, 0), 470);
        same("special ones", special.statement(0, 1), 99);
        same("the sum of costs", special.statement(0, 2), 99 * 99 * 40);
        same("the sum of touched rows", special.statement(0, 5), 470 * 40);
        // a<2 expects nothing and costs 0, so that the generic plan is never used: all 450 runs are special
        String cheap = "table;column a day;index a;" + "row 2;".repeat(40) + "prepare p a<?0;cost 99 0 99;tries 1;";
        PreparedPlans all = Checks.loaded(cheap);
        all.run(0, 2, 0, 0, 0);
        for (int i = 1; i < 450; i++) {
            all.run(0, i % 2 == 0 ? 2 : 1, 0, 0, 0);
        }
        same("all special", all.statement(0, 1), 450);
        same("costs", all.statement(0, 2), 0);
    }
}
