/** Makes setup texts: right ones, and such with a slip. */
final class SetupTexts {
    private static final String[] TYPES = {"number", "day", "flag"};
    private final Dice dice;
    private int[] types;
    private int[] holeTypes;
    /** A careless text is right in its syntax, but not in types, numbers and limits. */
    private boolean isCareless;

    SetupTexts(Dice dice) {
        this.dice = dice;
    }

    String right() {
        isCareless = false;
        return text();
    }

    /** A text with one to three slips, or a careless one, or both; it need not have an error. */
    String wrong() {
        isCareless = dice.oneIn(2);
        StringBuilder text = new StringBuilder(text());
        for (int slips = isCareless ? dice.below(2) : 1 + dice.below(3); slips > 0; slips--) {
            slip(text);
        }
        return text.toString();
    }

    private boolean isSlip(int oneIn) {
        return isCareless && dice.oneIn(oneIn);
    }

    private String text() {
        StringBuilder text = new StringBuilder(space() + "table" + space() + ";");
        types = new int[dice.oneIn(12) ? 0 : isSlip(8) ? 6 : 1 + dice.below(5)];
        boolean isOneType = dice.oneIn(3);
        for (int i = 0; i < types.length; i++) {
            types[i] = isOneType && i > 0 ? types[0] : dice.below(3);
            text.append("column ").append(name(i)).append(' ').append(TYPES[types[i]]).append(space()).append(';');
        }
        for (int i = types.length - 1; i >= 0; i--) {
            text.append(dice.oneIn(4) ? "" : "index " + name(i) + ";");
        }
        int rows = types.length == 0 ? 0 : isSlip(3) ? 41 : dice.below(dice.oneIn(4) ? 41 : 9);
        int spread = 1 + dice.below(12);
        for (int i = 0; i < rows && text.length() < 550; i++) {
            text.append("row");
            for (int type : types) {
                text.append(' ').append(value(type, spread));
            }
            text.append(';');
        }
        int statements = types.length == 0 ? 0 : isSlip(3) ? 7 : dice.below(7);
        for (int i = 0; i < statements && text.length() < 660; i++) {
            holeTypes = new int[] {-1, -1, -1, -1};
            text.append("prepare ").append((char) ('p' + i)).append(' ').append(condition(0)).append(space()).append(';');
        }
        if (dice.below(3) > 0) {
            text.append("cost ").append(dice.below(12)).append(' ').append(dice.below(20)).append(' ').append(dice.below(8)).append(';');
        }
        if (dice.below(3) > 0) {
            text.append("tries").append(dice.below(5)).append(";").append(space());
        }
        return text.toString();
    }

    private void slip(StringBuilder text) {
        int at = dice.below(text.length() + 1);
        int end = Math.min(text.length(), at + 1 + dice.below(3));
        switch (dice.below(7)) {
            case 0: text.delete(at, end); break;
            case 1: text.insert(at, token()); break;
            case 2: text.replace(at, end, token()); break;
            case 3: text.insert(at, text.substring(at, end)); break;
            case 4: text.setLength(at); break;
            case 5: text.insert(at, (char) dice.below(256)); break;
            default: moveStatement(text); break;
        }
        if (text.length() == 0) {
            text.append(' ');
        }
    }

    /** Statements twice or in another place bring DUPLICATE, TOO_MANY and errors of order. */
    private void moveStatement(StringBuilder text) {
        String[] statements = text.toString().split("(?<=;)");
        String moved = statements[dice.below(statements.length)];
        String place = statements[dice.below(statements.length)];
        String copies = moved.repeat(dice.oneIn(3) ? 1 + dice.below(6) : 1);
        text.insert(text.indexOf(place), copies);
    }

    private String token() {
        return dice.oneOf(";", "(", ")", "((((", "not ", "not not not ", " and ", " or ", "=", "<", ">", "?", "?0", "?4", " ", "  ",
                "9", "10000", " 1000 ", "2", "1", "0000", "a", "b", "zz", "abcdefghi", "column ", "index ", "row ", "prepare ",
                "cost ", "tries ", "table;", "number", "day", "flag", "row 1;", "A", "\t", "" + (char) 225);
    }

    private String space() {
        return dice.oneIn(5) ? "  ".substring(dice.below(2)) : "";
    }

    private String name(int column) {
        String[] names = {"a", "row", "day", "number", "longname", "f"};
        return names[isSlip(60) ? dice.below(6) : column];
    }

    int value(int type, int spread) {
        if (isSlip(60)) {
            return PlansModel.GREATEST[dice.below(3)] + 1;
        }
        if (dice.oneIn(40)) {
            return PlansModel.GREATEST[type];
        }
        return type == 2 ? dice.below(2) : dice.oneIn(10) ? dice.below(100) : 3 + dice.below(spread);
    }

    private String condition(int depth) {
        StringBuilder text = new StringBuilder(factor(depth));
        for (int i = dice.below(3 + depth) - depth; i > 0 && depth < 8; i--) {
            text.append(dice.oneIn(4) ? " or " : " and ").append(factor(depth));
        }
        return text.toString();
    }

    private String factor(int depth) {
        int deepest = isCareless ? 8 : 6;
        if (isSlip(12)) {
            return dice.oneOf("not not ", "( not(", "((((", "not not not not ", "((((((", "not((((((") + factor(depth + 2);
        }
        if (depth < deepest && dice.oneIn(7)) {
            return "not " + factor(depth + 1);
        }
        if (depth < deepest && dice.oneIn(5)) {
            return "(" + condition(depth + 1) + ")";
        }
        int column = dice.below(types.length);
        String start = name(column) + space() + dice.oneOf("<", "=", ">") + space();
        int hole = dice.below(4);
        if (dice.below(3) > 0 && (holeTypes[hole] < 0 || holeTypes[hole] == types[column] || isSlip(3))) {
            holeTypes[hole] = types[column];
            return start + "?" + space() + hole;
        }
        int other = dice.below(types.length);
        if (dice.oneIn(3) && (types[other] == types[column] || isSlip(3))) {
            return start + name(other);
        }
        return start + value(types[column], 12);
    }
}
