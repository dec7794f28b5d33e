import java.util.function.Consumer;
import java.util.function.Supplier;

/** The boundary cases that the document's section Changes and its promise of undo name; each method quotes its sentence. */
public final class ChangeBoundsTest {
    private static final String DAY = "table;column a day;";

    public static void main(String[] args) {
        sixMethodsChange();
        changesThatLeaveAllAsItWas();
        queriesAreNoChanges();
        refusedCallsAreNoChanges();
        wrongTextsAreNoChanges();
        theLatestEightCanBeUndone();
        theLatestOneFirst();
        finalWithEightLaterOnes();
        undoneOnesDoNotCountAsLater();
        whatIsFinalStaysFinal();
        nothingToUndo();
        beforeTheFirstLoad();
        theBufferAndTheErrorOffsetStay();
        undoOfLoad();
        undoOfRun();
        undoOfAnUnusedGenericPlan();
        undoOfKeptCosts();
        undoOfInsertAndDelete();
        undoOfSetIndexAndAnalyze();
        changesAfterUndo();
        Checks.end("ChangeBoundsTest");
    }

    private static void same(String what, long got, long due) {
        Checks.same(what, got, due);
    }

    /** How many changes can be undone; all of them are undone then. */
    private static int undoAll(PreparedPlans x) {
        int count = 0;
        while (x.undo() >= 0) {
            count++;
        }
        return count;
    }

    /** The call is one change, and undo takes it back. */
    private static void isChange(String what, Supplier<PreparedPlans> make, Consumer<PreparedPlans> call) {
        PreparedPlans counted = make.get();
        call.accept(counted);
        same(what + " is a change", undoAll(counted), undoAll(make.get()) + 1);
        Checks.changesNothing(what + " and undo", make, x -> {
            call.accept(x);
            x.undo();
        });
    }

    private static PreparedPlans shop() {
        return Checks.loaded(Texts.SHOP);
    }

    /** "The changing methods are load (when it succeeds), run, insert, delete, setIndex and analyze" */
    private static void sixMethodsChange() {
        isChange("load", ChangeBoundsTest::shop,
                x -> Checks.load(x, "table;column z flag;row 1;prepare z z=1;cost 9 9 9;tries 9;"));
        isChange("run", ChangeBoundsTest::shop, x -> x.run(0, 25, 0, 0, 0));
        isChange("run by a scan", ChangeBoundsTest::shop, x -> x.run(1, 0, 0, 0, 0));
        isChange("insert", ChangeBoundsTest::shop, x -> x.insert(1, 1, 1, 0, 0));
        isChange("delete", ChangeBoundsTest::shop, x -> x.delete(0));
        isChange("setIndex", ChangeBoundsTest::shop, x -> x.setIndex(0, false));
        isChange("analyze", ChangeBoundsTest::shop, PreparedPlans::analyze);
    }

    /** "each such call that does not throw an exception is a change, also if all data stay as they were" */
    private static void changesThatLeaveAllAsItWas() {
        isChange("load of the same text", ChangeBoundsTest::shop, x -> Checks.load(x, Texts.SHOP));
        isChange("load of nothing", PreparedPlans::new, x -> Checks.load(x, "table;"));
        isChange("setIndex of an index", ChangeBoundsTest::shop, x -> x.setIndex(0, true));
        isChange("setIndex of none", ChangeBoundsTest::shop, x -> x.setIndex(2, false));
        isChange("analyze of a new object", PreparedPlans::new, PreparedPlans::analyze);
        PreparedPlans x = shop();
        x.insert(1, 1, 1, 0, 0);
        for (int i = 0; i < 8; i++) {
            x.setIndex(0, true);
        }
        for (int left = 7; left >= 0; left--) {
            same("undo of nothing", x.undo(), left);
        }
        same("the insert is final", x.undo(), -1);
        same("and stays", x.count(1), 5);
    }

    private static void queriesAreNoChanges() {
        same("there are 8 changes to lose", undoAll(Texts.used()), 8);
        Checks.changesNothing("errorOffset", Texts::used, PreparedPlans::errorOffset);
        Checks.changesNothing("checksum", Texts::used, PreparedPlans::checksum);
        for (int i = 0; i < 9; i++) {
            int what = i;
            Checks.changesNothing("count", Texts::used, x -> x.count(what));
        }
        Checks.changesNothing("column", Texts::used, x -> x.column(2, 4));
        Checks.changesNothing("value", Texts::used, x -> x.value(3, 2));
        Checks.changesNothing("hole", Texts::used, x -> x.hole(1, 3));
        Checks.changesNothing("statement", Texts::used, x -> x.statement(1, 5));
        Checks.changesNothing("learned", Texts::used, x -> x.learned(1, 2));
        Checks.changesNothing("kept", Texts::used, x -> x.kept(1));
        for (int i = 0; i < 2; i++) {
            int s = i;
            Checks.changesNothing("genericCost", Texts::used, x -> x.genericCost(s, 0));
            Checks.changesNothing("special", Texts::used, x -> x.special(s, 0, 0, 0, 0));
            Checks.changesNothing("specialCost", Texts::used, x -> x.specialCost(s, 0, 0, 0, 0, 0));
            Checks.changesNothing("wouldUse", Texts::used, x -> x.wouldUse(s, 0, 0, 0, 0));
            Checks.changesNothing("rows", Texts::used, x -> x.rows(s, 0, 0, 0, 0));
        }
        PreparedPlans x = shop();
        x.append(0, 0, 0, 0, 0);
        x.named(20);
        same("append and named", undoAll(x), 1);
    }

    /** "A method that throws an exception changes nothing." */
    private static void refusedCallsAreNoChanges() {
        Checks.refuses("load", Checks.ARGUMENT, Texts::used, x -> x.load(21));
        Checks.refuses("named", Checks.ARGUMENT, Texts::used, x -> x.named(21));
        Checks.refuses("run of no statement", Checks.INDEX, Texts::used, x -> x.run(2, 0, 0, 0, 0));
        Checks.refuses("run with a wrong value", Checks.ARGUMENT, Texts::used, x -> x.run(1, 0, 1000, 0, 0));
        Checks.refuses("wouldUse with a wrong value", Checks.ARGUMENT, Texts::used, x -> x.wouldUse(1, 0, 1000, 0, 0));
        Checks.refuses("insert", Checks.ARGUMENT, Texts::used, x -> x.insert(0, 0, 2, 0, 0));
        Checks.refuses("insert of too many", Checks.STATE, Texts::full, x -> x.insert(0, 0, 0, 0, 0));
        Checks.refuses("insert without columns", Checks.STATE, PreparedPlans::new, x -> x.insert(0, 0, 0, 0, 0));
        Checks.refuses("delete", Checks.INDEX, Texts::used, x -> x.delete(4));
        Checks.refuses("setIndex", Checks.INDEX, Texts::used, x -> x.setIndex(3, true));
    }

    /** "load (when it succeeds)": an error leaves the data and what can be undone. */
    private static void wrongTextsAreNoChanges() {
        String[] texts = {"table;column", "table;tries 100;", "table;index a;", "table;column a day;column a day;",
            "table;column a day;prepare p a=?0;tries 1;x", "table;column a day;column b flag;prepare p a=b;"};
        for (String text : texts) {
            PreparedPlans x = Checks.loaded(Texts.SHOP);
            x.analyze();
            long before = x.checksum();
            Checks.is("an error in " + text, Checks.load(x, text) < 0);
            same("the same data", x.checksum(), before);
            same("undo goes to the change before", x.undo(), 1);
            same("version 0 again", x.checksum(), shop().checksum());
            x.undo();
            same("nothing left", x.undo(), -1);
        }
    }

    /** "The latest 8 changes that have not been undone can be undone" */
    private static void theLatestEightCanBeUndone() {
        for (int changes = 1; changes <= 20; changes++) {
            PreparedPlans x = Checks.loaded(DAY);
            for (int i = 1; i < changes; i++) {
                x.insert(i, 0, 0, 0, 0);
            }
            int due = Math.min(changes, 8);
            for (int left = due - 1; left >= 0; left--) {
                same("undo of " + changes, x.undo(), left);
            }
            same("no more than " + due, x.undo(), -1);
            same("rows that are final", x.count(1), Math.max(0, changes - 9));
            same("columns", x.count(0), changes > 8 ? 1 : 0);
        }
    }

    /** "the latest one first" */
    private static void theLatestOneFirst() {
        PreparedPlans x = Checks.loaded(DAY);
        long[] sums = new long[30];
        for (int i = 0; i < 30; i++) {
            sums[i] = x.checksum();
            switch (i % 4) {
                case 0: x.insert(i, 0, 0, 0, 0); break;
                case 1: x.analyze(); break;
                case 2: x.setIndex(0, i % 8 == 2); break;
                default: x.insert(i, 0, 0, 0, 0); break;
            }
        }
        for (int i = 29; i >= 22; i--) {
            x.undo();
            same("undo of change " + i, x.checksum(), sums[i]);
        }
        same("change 21 is final", x.undo(), -1);
        same("and stays", x.checksum(), sums[22]);
    }

    /** "a change is final as soon as 8 later ones, none of them undone, have been made" */
    private static void finalWithEightLaterOnes() {
        PreparedPlans seven = Checks.loaded(DAY);
        seven.insert(1, 0, 0, 0, 0);
        for (int i = 0; i < 7; i++) {
            seven.analyze();
        }
        same("insert with 7 later ones can be undone", undoAll(seven), 8);
        same("no row", seven.count(1), 0);
        PreparedPlans eight = Checks.loaded(DAY);
        eight.insert(1, 0, 0, 0, 0);
        for (int i = 0; i < 8; i++) {
            eight.analyze();
        }
        same("insert with 8 later ones can't", undoAll(eight), 8);
        same("the row stays", eight.count(1), 1);
        same("the version is 0", eight.count(3), 0);
    }

    private static void undoneOnesDoNotCountAsLater() {
        PreparedPlans x = Checks.loaded(DAY);
        x.insert(1, 0, 0, 0, 0);
        for (int i = 0; i < 7; i++) {
            x.analyze();
        }
        for (int i = 0; i < 20; i++) {
            same("undo the seventh", x.undo(), 7);
            x.setIndex(0, i % 2 == 0);
        }
        same("27 later ones, but 7 that are not undone", undoAll(x), 8);
        same("no row", x.count(1), 0);
        for (int i = 0; i < 30; i++) {
            x.insert(2, 0, 0, 0, 0);
            same("one each time", x.undo(), 0);
        }
        same("none", x.undo(), -1);
    }

    /** A change that 8 later ones have made final stays so, also when those are undone. */
    private static void whatIsFinalStaysFinal() {
        PreparedPlans x = Checks.loaded(DAY);
        x.insert(1, 0, 0, 0, 0);
        for (int i = 0; i < 8; i++) {
            x.analyze();
        }
        same("the eighth is undone", x.undo(), 7);
        same("7 are left", undoAll(x), 7);
        same("the row stays", x.count(1), 1);
        x.insert(2, 0, 0, 0, 0);
        x.delete(0);
        same("two new ones", undoAll(x), 2);
        same("the row of the final change", x.value(0, 0), 1);
    }

    /** "-1 if there was none to undo, and nothing changes then" */
    private static void nothingToUndo() {
        Checks.changesNothing("undo of a new object", PreparedPlans::new, PreparedPlans::undo);
        PreparedPlans x = Texts.full();
        undoAll(x);
        long before = x.checksum();
        for (int i = 0; i < 20; i++) {
            same("none", x.undo(), -1);
        }
        same("nothing changes", x.checksum(), before);
        same("32 rows", x.count(1), 32);
        x.delete(31);
        same("a change can be undone again", x.undo(), 0);
        same("as before", x.checksum(), before);
    }

    /** "Before the first successful load there are no columns, rows and statements, and the numbers are as without statements cost and tries." */
    private static void beforeTheFirstLoad() {
        int[] due = {0, 0, 0, 0, 1, 3, 2, 3, 0};
        PreparedPlans fresh = new PreparedPlans();
        PreparedPlans failed = new PreparedPlans();
        Checks.load(failed, "table;column a day;row 1;prepare p a=1;cost 9 9 9;tries 9;x");
        PreparedPlans undone = Checks.loaded(Texts.SHOP);
        undone.undo();
        for (int what = 0; what < due.length; what++) {
            same("fresh count(" + what + ")", fresh.count(what), due[what]);
            same("count(" + what + ") after an error", failed.count(what), due[what]);
            same("count(" + what + ") after undo", undone.count(what), due[what]);
        }
        for (PreparedPlans x : new PreparedPlans[] {fresh, failed, undone}) {
            Checks.fails("no column", Checks.INDEX, () -> x.column(0, 0));
            Checks.fails("no value", Checks.INDEX, () -> x.value(0, 0));
            Checks.fails("no statement", Checks.INDEX, () -> x.hole(0, 0));
            Checks.fails("no row", Checks.INDEX, () -> x.delete(0));
            Checks.fails("no index", Checks.INDEX, () -> x.setIndex(0, true));
            Checks.fails("no place", Checks.STATE, () -> x.insert(0, 0, 0, 0, 0));
            same("no name", Checks.named(x, "p"), -1);
            same("nothing to undo", x.undo(), -1);
            same("analyze", x.analyze(), 1);
        }
    }

    /** "The input buffer and the error offset are not affected." */
    private static void theBufferAndTheErrorOffsetStay() {
        PreparedPlans x = shop();
        x.analyze();
        Checks.load(x, "table;x");
        Checks.put(x, "table;column z day; ");
        same("undo", x.undo(), 1);
        same("the error offset stays", x.errorOffset(), 6);
        same("undo of load", x.undo(), 0);
        same("the error offset stays", x.errorOffset(), 6);
        same("none to undo", x.undo(), -1);
        same("the error offset stays", x.errorOffset(), 6);
        same("the buffer stays", x.load(20), 0);
        same("its column", x.column(0, 0), 1);
        same("no error", x.errorOffset(), -1);
        x.undo();
        same("undo does not bring the older offset back", x.errorOffset(), -1);
        Checks.load(x, "table;y;");
        Checks.load(x, "table;");
        x.undo();
        same("nor that before the load", x.errorOffset(), -1);
        Checks.fails("the buffer is empty still", Checks.ARGUMENT, () -> x.load(1));
    }

    private static void undoOfLoad() {
        PreparedPlans x = Texts.used();
        x.load(0);
        PreparedPlans due = Texts.used();
        Checks.load(x, "table;column q flag;index q;" + Texts.rows(0, 1, 1) + "prepare q q=?2;cost 7 7 7;tries 7;");
        x.run(0, 0, 0, 1, 0);
        x.analyze();
        same("another table", x.count(0), 1);
        x.undo();
        x.undo();
        x.undo();
        same("the older one", x.checksum(), due.checksum());
        same("its statement", Checks.named(x, "older"), 0);
        same("not the other's", Checks.named(x, "q"), -1);
        same("its rows", x.rows(1, 0, 5, 0, 1), due.rows(1, 0, 5, 0, 1));
        same("its costs", x.specialCost(0, 0, 12, 0, 0, 0), due.specialCost(0, 0, 12, 0, 0, 0));
        same("its generic plan", x.wouldUse(1, 0, 5, 0, 1), due.wouldUse(1, 0, 5, 0, 1));
    }

    private static void undoOfRun() {
        PreparedPlans x = Checks.loaded("table;column a day;index a;" + Texts.rows(1, 1, 2) + "prepare p a=?0;cost 9 1 1;tries 2;");
        long[] sums = new long[7];
        for (int i = 0; i < 6; i++) {
            sums[i] = x.checksum();
            x.run(0, i % 4, 0, 0, 0);
        }
        for (int i = 5; i >= 0; i--) {
            x.undo();
            same("as before run " + i, x.checksum(), sums[i]);
            same("runs", x.statement(0, 0), i);
        }
        same("100 percent", x.learned(0, 0), 100);
        same("none kept", x.kept(0), -2);
    }

    private static void undoOfAnUnusedGenericPlan() {
        // outside of the statistics: cost 1 by the index, against 1 + 2 * 75 / 100 = 2 unseen
        PreparedPlans x = Checks.loaded("table;column a day;index a;" + Texts.rows(1, 1, 2) + "prepare p a=?0;cost 9 1 1;tries 1;");
        x.run(0, 0, 0, 0, 0);
        x.run(0, 0, 0, 0, 0);
        same("made and not used", x.statement(0, 3) + 10 * x.statement(0, 1), 21);
        x.undo();
        same("not made", x.statement(0, 3), 0);
        same("none kept", x.statement(0, 4), 0);
        same("none", x.kept(0), -2);
    }

    /** The kept cost 3 comes back, though the one that was made after it had another one. */
    private static void undoOfKeptCosts() {
        PreparedPlans x = Checks.loaded("table;column a day;index a;" + Texts.rows(1, 1, 2) + "prepare p a=?0;cost 9 1 1;tries 1;");
        x.run(0, 1, 0, 0, 0);
        same("generic 3 * 1 at most 3", x.wouldUse(0, 1, 0, 0, 0), 3);
        x.run(0, 1, 0, 0, 0);
        x.insert(1, 0, 0, 0, 0);
        x.insert(1, 0, 0, 0, 0);
        x.insert(1, 0, 0, 0, 0);
        x.analyze();
        // 6 rows, 2 values: 3 rows expected, cost 4 * 1 is above 3
        same("special with new statistics", x.wouldUse(0, 1, 0, 0, 0), 2);
        x.run(0, 1, 0, 0, 0);
        same("made twice", x.statement(0, 3), 2);
        same("special", x.statement(0, 1), 2);
        x.undo();
        same("stale again", x.statement(0, 4), 2);
        x.undo();
        same("fresh again", x.statement(0, 4), 1);
        same("with its cost", x.wouldUse(0, 1, 0, 0, 0), 3);
        x.run(0, 1, 0, 0, 0);
        same("not made again", x.statement(0, 3), 1);
    }

    private static void undoOfInsertAndDelete() {
        PreparedPlans x = Texts.full();
        for (int row : new int[] {39, 0, 20, 5}) {
            x.delete(row);
        }
        x.insert(77, 0, 0, 0, 0);
        for (int i = 0; i < 5; i++) {
            x.undo();
        }
        same("40 rows", x.count(1), 40);
        for (int row = 0; row < 40; row++) {
            same("row " + row, x.value(row, 0), row);
        }
        Checks.fails("full again", Checks.STATE, () -> x.insert(0, 0, 0, 0, 0));
    }

    private static void undoOfSetIndexAndAnalyze() {
        PreparedPlans x = Checks.loaded(DAY + Texts.rows(3, 4) + "prepare p a=4;cost 9 0 1;");
        x.setIndex(0, true);
        x.insert(9, 0, 0, 0, 0);
        x.analyze();
        x.setIndex(0, false);
        same("version 3", x.count(3), 3);
        same("no plan by a", x.genericCost(0, 0), -1);
        x.undo();
        same("the index again", x.genericCost(0, 0), 1);
        same("version 2", x.count(3), 2);
        same("greatest 9", x.column(0, 4), 9);
        x.undo();
        same("version 1", x.count(3), 1);
        same("greatest 4", x.column(0, 4), 4);
        same("2 rows in the statistics", x.count(8), 2);
        same("3 rows", x.count(1), 3);
        x.undo();
        x.undo();
        same("version 0", x.count(3), 0);
        same("no index", x.column(0, 1), 0);
    }

    /** What was undone is gone: other changes take its place. */
    private static void changesAfterUndo() {
        PreparedPlans x = Checks.loaded(DAY);
        for (int i = 0; i < 12; i++) {
            x.insert(i, 0, 0, 0, 0);
        }
        for (int i = 0; i < 5; i++) {
            x.undo();
        }
        same("7 rows", x.count(1), 7);
        for (int i = 0; i < 3; i++) {
            x.insert(100 + i, 0, 0, 0, 0);
        }
        same("the new ones", x.value(7, 0), 100);
        same("3 and 3", undoAll(x), 6);
        same("4 rows", x.count(1), 4);
        same("the last of them", x.value(3, 0), 3);
    }
}
