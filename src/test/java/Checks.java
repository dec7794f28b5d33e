/** What the tests have in common: they count what is wrong and print it. */
final class Checks {
    private static int done = 0;
    private static int wrong = 0;

    private Checks() { }

    static void same(String what, long got, long due) {
        done++;
        if (got != due) {
            wrong++;
            System.out.println("wrong: " + what + " answered " + got + ", due is " + due);
        }
    }

    static void fails(String what, Class<? extends RuntimeException> due, Runnable call) {
        done++;
        Class<?> got = null;
        try {
            call.run();
        } catch (RuntimeException e) {
            got = e.getClass();
        }
        if (got != due) {
            wrong++;
            System.out.println("wrong: " + what + " threw " + got + ", due is " + due);
        }
    }

    static int wrongSoFar() {
        return wrong;
    }

    /** Ends the test: with exit code 1 if anything was wrong. */
    static void end(String test) {
        System.out.println(test + ": " + done + " checks, " + wrong + " wrong");
        if (wrong != 0) {
            System.exit(1);
        }
    }

    /** Appends a text (characters 0 to 255) to the input buffer; zeros fill up the last call. */
    static void put(PreparedPlans plans, String text) {
        for (int i = 0; i < text.length(); i += 20) {
            plans.append(word(text, i), word(text, i + 4), word(text, i + 8), word(text, i + 12), word(text, i + 16));
        }
    }

    private static int word(String text, int from) {
        int word = 0;
        for (int i = from; i < from + 4; i++) {
            word = word << 8 | (i < text.length() ? text.charAt(i) & 255 : 0);
        }
        return word;
    }

    static int load(PreparedPlans plans, String text) {
        put(plans, text);
        return plans.load(text.length());
    }

    /** A new object that has read a text without an error. */
    static PreparedPlans loaded(String text) {
        PreparedPlans plans = new PreparedPlans();
        int answer = load(plans, text);
        if (answer < 0) {
            same("load of " + text + " (error at " + plans.errorOffset() + ")", answer, 0);
        }
        return plans;
    }

    static int named(PreparedPlans plans, String name) {
        put(plans, name);
        return plans.named(name.length());
    }
}
