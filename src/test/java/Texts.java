/** Setup texts that several tests use, and objects with a past. */
final class Texts {
    /** The types in the order of their numbers, and the greatest value of each. */
    static final String[] TYPES = {"number", "day", "flag"};
    static final int[] GREATEST = {9999, 999, 1};

    static final String TABLE = "table;column a number;column b day;column c flag;";
    static final String ROWS = "row 10 5 1;row 20 5 0;row 30 9 1;row 30 12 1;";
    /** Statement 0 has hole 0 (number) in a sargable place; statement 1 has holes 1 (day) and 3 (flag), none sargable. */
    static final String SHOP = TABLE + "index a;index b;" + ROWS
            + "prepare older a>?0 and c=1;prepare same b=?1 or c=?3;cost 1 3 2;tries 2;";

    private Texts() { }

    /** Columns named a, b, c and so on, all of one type. */
    static String columns(int count, String type) {
        StringBuilder text = new StringBuilder("table;");
        for (int i = 0; i < count; i++) {
            text.append("column ").append((char) ('a' + i)).append(' ').append(type).append(';');
        }
        return text.toString();
    }

    /** Rows of a table with one column. */
    static String rows(int... values) {
        StringBuilder text = new StringBuilder();
        for (int value : values) {
            text.append("row ").append(value).append(';');
        }
        return text.toString();
    }

    /** Statements named p, q, r and so on, all with the same condition. */
    static String prepares(int count, String condition) {
        StringBuilder text = new StringBuilder();
        for (int i = 0; i < count; i++) {
            text.append("prepare ").append((char) ('p' + i)).append(' ').append(condition).append(';');
        }
        return text.toString();
    }

    /** SHOP after 8 changes, with a stale generic plan, an error's offset and 20 bytes in the buffer. */
    static PreparedPlans used() {
        PreparedPlans plans = Checks.loaded(SHOP);
        Checks.load(plans, "table;x");
        plans.run(0, 25, 0, 0, 0);
        for (int i = 0; i < 3; i++) {
            plans.run(1, 0, 9, 0, 1);
        }
        plans.insert(40, 7, 0, 0, 0);
        plans.delete(1);
        plans.setIndex(2, true);
        plans.undo();
        plans.analyze();
        Checks.put(plans, "table;column z day; ");
        return plans;
    }

    /** A table with 40 rows, the value of each its index, with a past too. */
    static PreparedPlans full() {
        PreparedPlans plans = Checks.loaded(columns(1, "number") + "index a;prepare p a=?0;prepare q a>?1 or a=0;");
        for (int row = 0; row < 40; row++) {
            plans.insert(row, 0, 0, 0, 0);
        }
        return plans;
    }
}
