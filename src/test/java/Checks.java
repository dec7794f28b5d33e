import java.util.function.Consumer;
import java.util.function.Supplier;

/** What the tests have in common: they count what is wrong and print it. */
final class Checks {
    static final Class<IllegalArgumentException> ARGUMENT = IllegalArgumentException.class;
    static final Class<IndexOutOfBoundsException> INDEX = IndexOutOfBoundsException.class;
    static final Class<IllegalStateException> STATE = IllegalStateException.class;
    private static final boolean[] BOTH = {false, true};

    private static int done = 0;
    private static int wrong = 0;

    private Checks() { }

    static void same(String what, long got, long due) {
        done++;
        if (got != due) {
            wrong++;
            System.out.println("wrong: " + what + " answered " + got + ", due is " + due);
        }
    }

    static void fails(String what, Class<? extends RuntimeException> due, Runnable call) {
        done++;
        Class<?> got = null;
        try {
            call.run();
        } catch (RuntimeException e) {
            got = e.getClass();
        }
        if (got != due) {
            wrong++;
            System.out.println("wrong: " + what + " threw " + got + ", due is " + due);
        }
    }

    static int wrongSoFar() {
        return wrong;
    }

    /** Ends the test: with exit code 1 if anything was wrong. */
    static void end(String test) {
        System.out.println(test + ": " + done + " checks, " + wrong + " wrong");
        if (wrong != 0) {
            System.exit(1);
        }
    }

    /** Appends a text (characters 0 to 255) to the input buffer; zeros fill up the last call. */
    static void put(PreparedPlans plans, String text) {
        for (int i = 0; i < text.length(); i += 20) {
            plans.append(word(text, i), word(text, i + 4), word(text, i + 8), word(text, i + 12), word(text, i + 16));
        }
    }

    private static int word(String text, int from) {
        int word = 0;
        for (int i = from; i < from + 4; i++) {
            word = word << 8 | (i < text.length() ? text.charAt(i) & 255 : 0);
        }
        return word;
    }

    static int load(PreparedPlans plans, String text) {
        put(plans, text);
        return plans.load(text.length());
    }

    /** A new object that has read a text without an error. */
    static PreparedPlans loaded(String text) {
        PreparedPlans plans = new PreparedPlans();
        int answer = load(plans, text);
        if (answer < 0) {
            same("load of " + text + " (error at " + plans.errorOffset() + ")", answer, 0);
        }
        return plans;
    }

    static int named(PreparedPlans plans, String name) {
        put(plans, name);
        return plans.named(name.length());
    }

    static void is(String what, boolean isRight) {
        same(what, isRight ? 1 : 0, 1);
    }

    private static void sameTold(String what, String got, String due) {
        is(what + (got.equals(due) ? "" : "\n" + got + "instead of\n" + due), got.equals(due));
    }

    /** The call throws what is due, and the object is then as one that is made the same way without the call. */
    static void refuses(String what, Class<? extends RuntimeException> due, Supplier<PreparedPlans> make,
            Consumer<PreparedPlans> call) {
        for (boolean withUses : BOTH) {
            PreparedPlans plans = make.get();
            fails(what, due, () -> call.accept(plans));
            sameTold(what + " changes nothing", tell(plans, withUses), tell(make.get(), withUses));
        }
    }

    /** The call throws nothing, and the object is then as one that is made the same way without the call. */
    static void changesNothing(String what, Supplier<PreparedPlans> make, Consumer<PreparedPlans> call) {
        for (boolean withUses : BOTH) {
            PreparedPlans plans = make.get();
            call.accept(plans);
            sameTold(what + " changes nothing", tell(plans, withUses), tell(make.get(), withUses));
        }
    }

    /** The text has the error that is due where ^ stands (which is no part of it), and replaces nothing. */
    static void error(int due, String marked) {
        int offset = marked.indexOf('^');
        String text = marked.substring(0, offset) + marked.substring(offset + 1);
        PreparedPlans plans = new PreparedPlans();
        same("load of " + text, load(plans, text), due);
        same("offset in " + text, plans.errorOffset(), offset);
        PreparedPlans used = Texts.used();
        used.load(0);
        same("load of " + text + " after others", load(used, text), due);
        same("offset in " + text + " after others", used.errorOffset(), offset);
        same("the buffer behind " + text, used.append(0, 0, 0, 0, 0), 20);
        sameTold(text + " replaces nothing", tellData(used, false), tellData(Texts.used(), false));
    }

    /** The text has no error, and this number of statements. */
    static void right(int statements, String text) {
        PreparedPlans plans = Texts.used();
        plans.load(0);
        same("load of " + text, load(plans, text), statements);
        same("offset in " + text, plans.errorOffset(), -1);
        same("statements of " + text, plans.count(2), statements);
    }

    /** All that can be told of an object, which is undone and whose buffer is read by that. */
    private static String tell(PreparedPlans plans, boolean withUses) {
        StringBuilder told = new StringBuilder("error at " + plans.errorOffset() + "\n" + tellData(plans, withUses));
        int length = plans.append(0, 0, 0, 0, 0) - 20;
        length = length < 0 ? 800 : length;
        told.append("buffer of ").append(length).append(" is read with ").append(plans.load(length));
        told.append(" and ").append(plans.errorOffset()).append('\n').append(tellNow(plans, withUses));
        return told.toString();
    }

    /** All but the buffer and the error's offset: the data, and what undo brings back. */
    private static String tellData(PreparedPlans plans, boolean withUses) {
        StringBuilder told = new StringBuilder(tellNow(plans, withUses));
        for (int left = plans.undo(); left >= 0; left = plans.undo()) {
            told.append(left).append(" left, ").append(tellNow(plans, withUses));
        }
        return told.toString();
    }

    /** The checksum does not tell the costs of kept plans, but wouldUse does; it must not hide what another call spoils, though. */
    private static String tellNow(PreparedPlans plans, boolean withUses) {
        StringBuilder told = new StringBuilder("checksum " + plans.checksum());
        for (int statement = 0; withUses && statement < plans.count(2); statement++) {
            told.append(", use ").append(plans.wouldUse(statement, 0, 0, 0, 0));
            told.append(", found ").append(plans.rows(statement, 0, 0, 0, 0));
        }
        return told.append('\n').toString();
    }
}
