import java.util.function.LongSupplier;

/** Runs of many calls on the class and on the model: every answer and exception must be the same. */
public final class ModelTest {
    private static final int RUNS = Integer.getInteger("runs", 1500);
    private static final long THROWN = Long.MIN_VALUE;

    private final Dice dice;
    private final SetupTexts texts;
    private final PreparedPlans plans = new PreparedPlans();
    private final PlansModel model = new PlansModel();
    private final StringBuilder calls = new StringBuilder();
    private int count;

    private ModelTest(int seed) {
        dice = new Dice(seed);
        texts = new SetupTexts(dice);
    }

    public static void main(String[] args) {
        int from = Integer.getInteger("from", 0);
        for (int seed = from; seed < from + RUNS && Checks.wrongSoFar() == 0; seed++) {
            new ModelTest(seed).play(seed);
        }
        Checks.end("ModelTest");
    }

    private void play(int seed) {
        while (count < 512 && Checks.wrongSoFar() == 0) {
            step();
            if (dice.oneIn(3)) {
                same("checksum()", plans::checksum, model::checksum);
            }
        }
        if (Checks.wrongSoFar() > 0) {
            System.out.println("calls of run " + seed + ":\n" + calls);
        }
    }

    private static long answer(LongSupplier call, Class<?>[] thrown) {
        try {
            return call.getAsLong();
        } catch (IllegalArgumentException | IndexOutOfBoundsException | IllegalStateException e) {
            thrown[0] = e.getClass();
            return THROWN;
        }
    }

    private void same(String call, LongSupplier got, LongSupplier due) {
        Class<?>[] thrown = new Class<?>[1];
        Class<?>[] thrownDue = new Class<?>[1];
        long answer = answer(got, thrown);
        long answerDue = answer(due, thrownDue);
        count++;
        calls.append(call).append(" = ").append(answer).append(thrown[0] == null ? "" : " " + thrown[0]).append('\n');
        Checks.same(call, answer, answerDue);
        Checks.same(call + " throws " + thrown[0] + ", due is " + thrownDue[0], thrown[0] == thrownDue[0] ? 1 : 0, 1);
    }

    private void append(String text) {
        calls.append("text ").append(text).append('\n');
        Checks.put(plans, text);
        for (int i = 0; i < text.length(); i += 20) {
            int[] words = new int[5];
            for (int k = 0; k < 20; k++) {
                words[k / 4] = words[k / 4] << 8 | (i + k < text.length() ? text.charAt(i + k) : 0);
            }
            model.append(words);
            count++;
        }
    }

    private int near(int count) {
        return dice.oneIn(12) ? dice.below(count + 4) - 2 : dice.below(Math.max(1, count));
    }

    private void step() {
        int kind = model.count(0) == 0 ? dice.below(12) : dice.below(60);
        if (kind < 2 && dice.oneIn(2) || count < 40 && model.count(2) == 0) {
            load();
        } else if (kind < 6) {
            small();
        } else if (kind < 12) {
            change();
        } else {
            useStatement();
        }
    }

    private void load() {
        String text = dice.oneIn(4) ? texts.wrong() : texts.right();
        append(text.length() > 800 ? text.substring(0, 800) : text);
        int length = dice.oneIn(40) ? dice.below(text.length() + 30) - 2 : Math.min(text.length(), 800);
        same("load(" + length + ")", () -> plans.load(length), () -> model.load(length));
        same("errorOffset()", plans::errorOffset, model::errorOffset);
    }

    private void small() {
        int what = dice.below(12) - 1;
        int column = near(model.count(0));
        int row = near(model.count(1));
        switch (dice.below(6)) {
            case 0: same("count(" + what + ")", () -> plans.count(what), () -> model.count(what)); break;
            case 1: same("column(" + column + ", " + what / 2 + ")", () -> plans.column(column, what / 2), () -> model.column(column, what / 2)); break;
            case 2: same("value(" + row + ", " + column + ")", () -> plans.value(row, column), () -> model.value(row, column)); break;
            case 3: same("append", () -> plans.append(what, row, 7, -1, column), () -> model.append(what, row, 7, -1, column)); break;
            case 4: same("errorOffset()", plans::errorOffset, model::errorOffset); break;
            default: named(); break;
        }
    }

    private void named() {
        append(dice.oneOf("p", "q", "r", "pq", " p", "u", "z"));
        int length = dice.below(12) == 0 ? dice.below(60) - 5 : 1;
        same("named(" + length + ")", () -> plans.named(length), () -> model.named(length));
    }

    private void change() {
        int column = near(model.count(0));
        int row = near(model.count(1));
        int[] v = rowValues();
        boolean isIndexed = dice.oneIn(2);
        switch (dice.below(7)) {
            case 0:
            case 1:
                same("insert", () -> plans.insert(v[0], v[1], v[2], v[3], v[4]), () -> model.insert(v));
                break;
            case 2: same("delete(" + row + ")", () -> plans.delete(row), () -> model.delete(row)); break;
            case 3:
                same("setIndex(" + column + ", " + isIndexed + ")", () -> plans.setIndex(column, isIndexed) ? 1 : 0,
                        () -> model.setIndex(column, isIndexed) ? 1 : 0);
                break;
            case 4: same("analyze()", plans::analyze, model::analyze); break;
            default: undo(); break;
        }
    }

    private void undo() {
        for (int i = dice.oneIn(4) ? 10 : 1 + dice.below(3); i > 0; i--) {
            same("undo()", plans::undo, model::undo);
        }
    }

    private int[] rowValues() {
        int[] values = new int[5];
        for (int i = 0; i < Math.min(5, model.count(0)); i++) {
            values[i] = texts.value(model.column(i, 0), 10);
        }
        if (dice.oneIn(10)) {
            values[dice.below(5)] = dice.below(3) * 999 - 1 + dice.below(3);
        }
        return values;
    }

    private int[] holeValues(int statement) {
        int[] values = new int[4];
        for (int i = 0; i < 4; i++) {
            int type = statement >= 0 && statement < model.count(2) ? model.hole(statement, i) : -1;
            values[i] = type < 0 ? 0 : texts.value(type, 16);
        }
        if (dice.oneIn(20)) {
            values[dice.below(4)] = dice.below(3) * 999 - 1 + dice.below(3);
        }
        return values;
    }

    private void useStatement() {
        int s = near(model.count(2));
        int[] v = holeValues(s);
        String call = "(" + s + ", " + v[0] + ", " + v[1] + ", " + v[2] + ", " + v[3] + ")";
        int plan = dice.below(model.count(0) + (dice.oneIn(8) ? 3 : 1)) - 1 - (dice.oneIn(30) ? 1 : 0);
        int column = near(model.count(0));
        int what = dice.oneIn(12) ? dice.below(20) - 10 : dice.below(6);
        switch (dice.below(14)) {
            case 0: same("hole(" + s + ", " + what + ")", () -> plans.hole(s, what), () -> model.hole(s, what)); break;
            case 1: same("statement(" + s + ", " + what + ")", () -> plans.statement(s, what), () -> model.statement(s, what)); break;
            case 2: same("learned(" + s + ", " + column + ")", () -> plans.learned(s, column), () -> model.learned(s, column)); break;
            case 3: same("kept(" + s + ")", () -> plans.kept(s), () -> model.kept(s)); break;
            case 4: same("genericCost(" + s + ", " + plan + ")", () -> plans.genericCost(s, plan), () -> model.genericCost(s, plan)); break;
            case 5: same("special" + call, () -> plans.special(s, v[0], v[1], v[2], v[3]), () -> model.special(s, v)); break;
            case 6:
                same("specialCost " + plan + call, () -> plans.specialCost(s, plan, v[0], v[1], v[2], v[3]), () -> model.specialCost(s, plan, v));
                break;
            case 7: same("wouldUse" + call, () -> plans.wouldUse(s, v[0], v[1], v[2], v[3]), () -> model.wouldUse(s, v)); break;
            case 8: same("rows" + call, () -> plans.rows(s, v[0], v[1], v[2], v[3]), () -> model.rows(s, v)); break;
            default: same("run" + call, () -> plans.run(s, v[0], v[1], v[2], v[3]), () -> model.run(s, v)); break;
        }
    }
}
