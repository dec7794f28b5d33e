/** The boundary cases that the document's section Setup text names; each method quotes its sentence. */
public final class TextBoundsTest {
    private static final int SYNTAX = PreparedPlans.SYNTAX_ERROR;
    private static final int RANGE = PreparedPlans.OUT_OF_RANGE;
    private static final int UNKNOWN = PreparedPlans.UNKNOWN;
    private static final int DUPLICATE = PreparedPlans.DUPLICATE;
    private static final int MISMATCH = PreparedPlans.MISMATCH;
    private static final int MANY = PreparedPlans.TOO_MANY;
    private static final int DEEP = PreparedPlans.TOO_DEEP;

    private static final String TABLE = Texts.TABLE;
    private static final String PREPARE = TABLE + "prepare p ";
    /** All that the grammar has, with a space between any two tokens. */
    private static final String ALL = "table ; column a number ; column b day ; index a ; index b ; row 1 2 ; row 3 4 ; "
            + "prepare p not ( a < 5 or b = ? 0 ) and a > a ; prepare q a = 1 ; cost 1 2 3 ; tries 4 ;";

    public static void main(String[] args) {
        atMost800Bytes();
        partsMayBeLeftOut();
        partsStandInTheirOrder();
        textsThatEndTooEarly();
        bytesThatNothingAllows();
        spacesMayPrecedeAnyToken();
        noOtherByteSeparates();
        wordsAndNumbersSideBySide();
        runsAreAsLongAsPossible();
        namesHaveOneToEightLetters();
        namesAreLettersAToZ();
        threeWordsAreNoNames();
        otherWordsAreNames();
        numbersOfAnyLength();
        digitsAreZeroToNine();
        numbersOfARow();
        numbersOfCostAndTries();
        holesOfAText();
        signs();
        nestedAtMostSixDeep();
        theFirstErrorCounts();
        theKindThatIsFirstInTheList();
        columnsThatAreUnknown();
        namesThatAreDuplicates();
        typesThatDoNotMatch();
        holesThatDoNotMatch();
        tooMany();
        Checks.end("TextBoundsTest");
    }

    private static void same(String what, long got, long due) {
        Checks.same(what, got, due);
    }

    private static void right(int statements, String text) {
        Checks.right(statements, text);
    }

    private static void error(int due, String marked) {
        Checks.error(due, marked);
    }

    private static String spaces(int count) {
        return " ".repeat(count);
    }

    /** "The setup text is read from an input buffer of at most 800 bytes." */
    private static void atMost800Bytes() {
        right(0, "table;" + spaces(794));
        right(0, spaces(794) + "table;");
        right(0, "table;tries " + "0".repeat(786) + "9;");
        same("the last number", Checks.loaded("table;tries " + "0".repeat(786) + "9;").count(7), 9);
        right(0, "table" + spaces(794) + ";");
        error(SYNTAX, "table" + spaces(795) + "^");
        error(SYNTAX, spaces(800) + "^");
        error(SYNTAX, "^" + "a".repeat(800));
        error(SYNTAX, "^" + "7".repeat(800));
        error(SYNTAX, "table;" + spaces(793) + "^;");
        error(SYNTAX, "^" + ";".repeat(800));
        error(SYNTAX, "table^" + "?".repeat(795));
        error(RANGE, "table;tries ^" + "9".repeat(788));
        String condition = "a=1 or ".repeat(103);
        right(1, "table;column a day;prepare p " + condition + "a=1" + spaces(800 - 29 - 721 - 3 - 1) + ";");
        error(DEEP, "table;column a day;prepare p ((((((^(" + "(".repeat(764));
    }

    /** setup = "table" ";" { column } { index } { row } { prepare } [ cost ] [ tries ] */
    private static void partsMayBeLeftOut() {
        String[] parts = {"column a day;column b day;", "index a;index b;", "row 1 2;row 3 4;", "prepare p a=1;prepare q b=1;", "cost 4 5 6;", "tries 7;"};
        for (int set = 0; set < 64; set++) {
            StringBuilder text = new StringBuilder("table;");
            for (int i = 0; i < 6; i++) {
                text.append((set >> i & 1) == 1 ? parts[i] : "");
            }
            boolean isTable = (set & 1) == 1;
            if (isTable || (set & 14) == 0) {
                PreparedPlans x = Checks.loaded(text.toString());
                same("columns", x.count(0), isTable ? 2 : 0);
                same("rows", x.count(1), (set & 4) > 0 ? 2 : 0);
                same("statements", x.count(2), (set & 8) > 0 ? 2 : 0);
                same("index", isTable ? x.column(1, 1) : 0, (set & 2) > 0 ? 1 : 0);
                same("scan", x.count(4), (set & 16) > 0 ? 4 : 1);
                same("probe", x.count(5), (set & 16) > 0 ? 5 : 3);
                same("fetch", x.count(6), (set & 16) > 0 ? 6 : 2);
                same("tries", x.count(7), (set & 32) > 0 ? 7 : 3);
            }
        }
    }

    private static void partsStandInTheirOrder() {
        String[] parts = {"column d day;", "index a;", "row 1 2 1;", "prepare p a=1;", "cost 4 5 6;", "tries 7;"};
        for (int later = 0; later < 6; later++) {
            error(SYNTAX, TABLE + parts[later] + "^table;");
            for (int earlier = 0; earlier < later; earlier++) {
                error(SYNTAX, TABLE + parts[later] + "^" + parts[earlier]);
            }
        }
        error(SYNTAX, TABLE + "cost 1 1 1;^cost 1 1 1;");
        error(SYNTAX, TABLE + "tries 1;^tries 1;");
        error(SYNTAX, "table;^table;");
        error(SYNTAX, "^column a day;");
        error(SYNTAX, "^;table;");
    }

    /** "SYNTAX_ERROR: (..) the end of the text, at its length, if the text ends too early." */
    private static void textsThatEndTooEarly() {
        right(2, ALL);
        error(SYNTAX, "^");
        String[] tokens = ALL.split(" ");
        StringBuilder text = new StringBuilder();
        for (String token : tokens) {
            text.append(token).append(' ');
            String cut = text.substring(0, text.length() - 1);
            if (token.equals(";")) {
                Checks.is("whole: " + cut, Checks.load(new PreparedPlans(), cut) >= 0);
                Checks.is("whole: " + text, Checks.load(new PreparedPlans(), text.toString()) >= 0);
            } else {
                error(SYNTAX, cut + "^");
                error(SYNTAX, text + "^");
                error(SYNTAX, text + "   ^");
            }
        }
    }

    /** "SYNTAX_ERROR: a token or byte that the grammar does not allow here, at its first byte" */
    private static void bytesThatNothingAllows() {
        String[] tokens = ALL.split(" ");
        StringBuilder text = new StringBuilder();
        for (String token : tokens) {
            error(SYNTAX, text + "^!" + token);
            error(SYNTAX, text + "^abcdefghi");
            error(SYNTAX, text + (token.equals("<") || token.equals("=") || token.equals(">") ? "^?" : "^="));
            error(SYNTAX, text + (token.equals(";") || token.equals("and") ? "^table" : "^;"));
            text.append(token).append(' ');
        }
        error(SYNTAX, text + "^;");
        error(SYNTAX, text + "^end");
        error(SYNTAX, text + "^0");
    }

    /** "Spaces (byte 32) may precede any token and may follow the last one" */
    private static void spacesMayPrecedeAnyToken() {
        long due = Checks.loaded(ALL).checksum();
        same("as few as possible", Checks.loaded(ALL.replaceAll(" ?([;()<>=?]) ?", "$1")).checksum(), due);
        same("two each", Checks.loaded(ALL.replace(" ", "  ")).checksum(), due);
        same("three before and behind", Checks.loaded("   " + ALL + "   ").checksum(), due);
        int at = ALL.indexOf("prepare");
        same("many in one place", Checks.loaded(ALL.substring(0, at) + spaces(500) + ALL.substring(at)).checksum(), due);
        error(SYNTAX, "^ta ble;");
        error(SYNTAX, "table;^co lumn a day;");
        error(SYNTAX, TABLE + "tries 1 ^2;");
    }

    /** "No other byte separates tokens.": each byte behind the name a, where a letter makes it longer. */
    private static void noOtherByteSeparates() {
        for (int b = 0; b < 256; b++) {
            String sign = "" + (char) b;
            if (b == ' ' || b >= 'a' && b <= 'z') {
                right(0, "table;column a" + sign + " day;");
            } else {
                error(SYNTAX, "table;column a^" + sign + " day;");
            }
            if (b == ' ') {
                right(0, "table;" + sign);
                right(0, sign + "table;");
            } else {
                error(SYNTAX, "table;^" + sign);
                error(SYNTAX, "^" + sign + "table;");
            }
        }
    }

    /** "a word and a number side by side need none between them" */
    private static void wordsAndNumbersSideBySide() {
        right(1, "table;column a day;row7;prepare p a=1or a=2and a=?3or a<4;cost1 2 3;tries4;");
        PreparedPlans x = Checks.loaded("table;column a day;column b day;row7 8;row9 10;cost11 12 13;tries14;");
        same("row", x.value(0, 0), 7);
        same("cost", x.count(4), 11);
        same("tries", x.count(7), 14);
        error(SYNTAX, "table;column a^1 day;");
        error(SYNTAX, TABLE + "prepare p^1 a=1;");
        error(SYNTAX, TABLE + "prepare p a^1=1;");
        error(SYNTAX, TABLE + "row 1 2 1^a;");
        error(UNKNOWN, TABLE + "prepare p ^nota=1;");
        error(SYNTAX, TABLE + "prepare p a=1 ^ora=2;");
        error(UNKNOWN, TABLE + "prepare p a=1 or ^notb=2;");
        error(SYNTAX, "^tablea;");
        error(SYNTAX, "table;^columna day;");
    }

    /** "Each run is as long as possible." */
    private static void runsAreAsLongAsPossible() {
        right(0, "table;column aday day;");
        right(0, "table;column abcdefgh day;");
        error(SYNTAX, "table;column ^abcdefghday;");
        error(SYNTAX, "table;column a ^dayday;");
        error(SYNTAX, TABLE + "row 12 1^;");
        error(RANGE, TABLE + "row ^99991 1 1;");
        error(RANGE, TABLE + "prepare p a=?^10;");
        right(1, "table;column orc day;column andy day;column nota day;prepare notnot orc=1 and andy=2 or not nota=3;");
        right(1, "table;column o day;column an day;column no day;prepare n o=1 and an=2 or no=3;");
        right(1, "table;column oror day;column andor day;prepare orand not oror=andor;");
    }

    /** "A name is a run of 1 to 8 letters": in each place where a name stands. */
    private static void namesHaveOneToEightLetters() {
        for (int length = 1; length <= 12; length++) {
            String name = "k".repeat(length);
            String[] texts = {"table;column ^" + name + " day;", "table;column a day;prepare ^" + name + " a=1;"};
            for (String text : texts) {
                if (length <= 8) {
                    Checks.is(text, Checks.load(new PreparedPlans(), text.replace("^", "")) >= 0);
                } else {
                    error(SYNTAX, text);
                }
            }
            int due = length <= 8 ? UNKNOWN : SYNTAX;
            error(due, TABLE + "index ^" + name + ";");
            error(due, TABLE + "prepare p ^" + name + "=1;");
            error(due, TABLE + "prepare p a=^" + name + ";");
        }
        right(1, "table;column abcdefgh day;column abcdefgi day;column bbcdefgh day;index abcdefgh;index bbcdefgh;"
                + "prepare abcdefgh abcdefgh=bbcdefgh and abcdefgi=1;");
        error(SYNTAX, "table;column ^" + "z".repeat(780) + " day;");
        error(SYNTAX, "table;column ^" + "a".repeat(13) + " day;");
    }

    /** "letters a to z": no other byte is in a name. */
    private static void namesAreLettersAToZ() {
        for (int b = 0; b < 256; b++) {
            String sign = "" + (char) b;
            if (b >= 'a' && b <= 'z') {
                right(1, "table;column " + sign + " day;prepare " + sign + " " + sign + "=1;");
            } else if (b != ' ') {
                error(SYNTAX, "table;column ^" + sign + " day;");
                error(SYNTAX, TABLE + "prepare ^" + sign + " a=1;");
                error(SYNTAX, TABLE + "index ^" + sign + ";");
            }
        }
        right(0, "table;column abcdefgh day;column ijklmnop day;column qrstuvwx day;column yz day;");
    }

    /** "none of: or, and, not" */
    private static void threeWordsAreNoNames() {
        for (String word : new String[] {"or", "and", "not"}) {
            error(SYNTAX, "table;column ^" + word + " day;");
            error(SYNTAX, TABLE + "index ^" + word + ";");
            error(SYNTAX, TABLE + "prepare ^" + word + " a=1;");
            error(SYNTAX, TABLE + "prepare p a=^" + word + ";");
            error(SYNTAX, TABLE + "prepare p a ^" + word + " a;");
        }
        error(SYNTAX, TABLE + "prepare p ^or=1;");
        error(SYNTAX, TABLE + "prepare p ^and=1;");
        error(SYNTAX, TABLE + "prepare p not^=1;");
        error(SYNTAX, TABLE + "prepare p a=1 and ^or a=1;");
        error(SYNTAX, TABLE + "prepare p a=1 or ^and a=1;");
        error(SYNTAX, TABLE + "prepare p not ^and a=1;");
    }

    private static void otherWordsAreNames() {
        String[] words = {"table", "column", "index", "row", "prepare", "cost", "tries", "number", "day", "flag", "xor", "nor", "ands", "no"};
        for (String word : words) {
            PreparedPlans x = Checks.loaded("table;column " + word + " day;index " + word + ";row 7;prepare " + word + " " + word + "=7;tries 5;");
            same("column " + word, x.rows(0, 0, 0, 0, 0), 1);
            same("index of " + word, x.column(0, 1), 1);
            same("statement " + word, Checks.named(x, word), 0);
            same("tries behind " + word, x.count(7), 5);
        }
    }

    /** "A number is a run of decimal digits, of any length (leading zeros do not matter)." */
    private static void numbersOfAnyLength() {
        for (int zeros : new int[] {0, 1, 2, 8, 9, 10, 20, 500}) {
            String zero = "0".repeat(zeros);
            same("row with " + zeros, Checks.loaded("table;column a number;row " + zero + "9999;").value(0, 0), 9999);
            same("nothing but zeros", Checks.loaded("table;column a number;row 0" + zero + ";").value(0, 0), 0);
            same("number with " + zeros, Checks.loaded("table;column a number;row 9999;prepare p a=" + zero + "9999;").rows(0, 0, 0, 0, 0), 1);
            same("hole with " + zeros, Checks.loaded("table;column a day;prepare p a=?" + zero + "3;").hole(0, 3), 1);
            same("scan with " + zeros, Checks.loaded("table;cost " + zero + "99 1 1;").count(4), 99);
            same("tries with " + zeros, Checks.loaded("table;tries " + zero + "99;").count(7), 99);
            error(RANGE, "table;column a number;row ^" + zero + "10000;");
            error(RANGE, "table;column a flag;row ^" + zero + "2;");
            error(RANGE, PREPARE + "a=?^" + zero + "4;");
            error(RANGE, "table;tries ^" + zero + "100;");
        }
        String[] great = {"10000", "65536", "99999", "100000", "2147483647", "2147483648", "4294967295", "4294967296", "4294967297",
            "9223372036854775807", "9223372036854775808", "18446744073709551616", "18446744073709551617", "1" + "0".repeat(400), "9".repeat(400)};
        for (String number : great) {
            error(RANGE, TABLE + "row ^" + number + " 1 1;");
            error(RANGE, PREPARE + "a=^" + number + ";");
            error(RANGE, PREPARE + "a=?^" + number + ";");
            error(RANGE, TABLE + "cost 1 ^" + number + " 1;");
            error(RANGE, TABLE + "tries ^" + number + ";");
        }
    }

    /** "a run of decimal digits" */
    private static void digitsAreZeroToNine() {
        for (int b = 0; b < 256; b++) {
            String sign = "" + (char) b;
            if (b >= '0' && b <= '9') {
                same("tries " + sign, Checks.loaded("table;tries 1" + sign + ";").count(7), 10 + b - '0');
                same("row " + sign, Checks.loaded("table;column a day;row " + sign + ";").value(0, 0), b - '0');
            } else if (b == ';') {
                error(SYNTAX, "table;tries 1;^;");
            } else if (b != ' ') {
                error(SYNTAX, "table;tries 1^" + sign + ";");
                error(SYNTAX, "table;column a day;row ^" + sign + ";");
            }
        }
        error(SYNTAX, TABLE + "row ^-1 1 1;");
        error(SYNTAX, TABLE + "row ^+1 1 1;");
        error(SYNTAX, TABLE + "row 1^.0 1 1;");
        error(SYNTAX, TABLE + "row 1^,1,1;");
    }

    /** "The numbers of row are its values, one for each column in their order (a number too few or too many is a SYNTAX_ERROR ..)" */
    private static void numbersOfARow() {
        for (int columns = 1; columns <= 5; columns++) {
            String table = Texts.columns(columns, "day");
            right(0, table + "row" + " 1".repeat(columns) + ";");
            error(SYNTAX, table + "row" + " 1".repeat(columns - 1) + "^;");
            error(SYNTAX, table + "row" + " 1".repeat(columns) + " ^1;");
            error(SYNTAX, table + "row" + " 1".repeat(columns) + " ^1 1;");
            error(SYNTAX, table + "row" + " 1".repeat(columns) + "^");
            error(SYNTAX, table + "row^;");
            error(SYNTAX, table + "row" + " 1".repeat(columns) + ";row" + " 1".repeat(columns - 1) + "^;");
        }
        // "a table without columns has no rows: a SYNTAX_ERROR at the word row"
        error(SYNTAX, "table;^row;");
        error(SYNTAX, "table;^row 1;");
        error(SYNTAX, "table; ^row");
        error(SYNTAX, "table;^row 99999;");
        String table = "table;column a number;column b day;column c flag;column d day;column e number;";
        right(0, table + "row 9999 999 1 999 9999;row 0 0 0 0 0;");
        error(RANGE, table + "row ^10000 999 1 999 9999;");
        error(RANGE, table + "row 9999 ^1000 1 999 9999;");
        error(RANGE, table + "row 9999 999 ^2 999 9999;");
        error(RANGE, table + "row 9999 999 1 ^1000 9999;");
        error(RANGE, table + "row 9999 999 1 999 ^10000;");
    }

    /** "The numbers of cost are scan, probe and fetch (0 to 99 each; 1, 3 and 2 without it); tries is 0 to 99 (3 without it)." */
    private static void numbersOfCostAndTries() {
        int[][] costs = {{0, 0, 0}, {99, 0, 0}, {0, 99, 0}, {0, 0, 99}, {99, 99, 99}, {1, 2, 3}, {98, 97, 96}};
        for (int[] cost : costs) {
            PreparedPlans x = Checks.loaded("table;cost " + cost[0] + " " + cost[1] + " " + cost[2] + ";");
            for (int i = 0; i < 3; i++) {
                same("cost " + i, x.count(4 + i), cost[i]);
            }
            same("tries without it", x.count(7), 3);
        }
        for (int tries : new int[] {0, 1, 2, 98, 99}) {
            PreparedPlans x = Checks.loaded("table;tries " + tries + ";");
            same("tries", x.count(7), tries);
            same("scan without it", x.count(4), 1);
            same("probe without it", x.count(5), 3);
            same("fetch without it", x.count(6), 2);
        }
        error(RANGE, "table;cost ^100 0 0;");
        error(RANGE, "table;cost 0 ^100 0;");
        error(RANGE, "table;cost 0 0 ^100;");
        error(RANGE, "table;tries ^100;");
        error(SYNTAX, "table;cost^;");
        error(SYNTAX, "table;cost 1^;");
        error(SYNTAX, "table;cost 1 2^;");
        error(SYNTAX, "table;cost 1 2 3 ^4;");
        error(SYNTAX, "table;tries^;");
        error(SYNTAX, "table;tries 1 ^2;");
        PreparedPlans x = Checks.loaded("table;cost 7 8 9;tries 10;");
        Checks.load(x, "table;");
        int[] due = {1, 3, 2, 3};
        for (int i = 0; i < 4; i++) {
            same("a new text without them", x.count(4 + i), due[i]);
        }
    }

    /** "The number behind ? is that of a hole." */
    private static void holesOfAText() {
        right(1, PREPARE + "a=?0 and a=?1 and a=?2 and a=?3;");
        right(1, PREPARE + "a = ? 0 and a=?  3;");
        right(1, PREPARE + "a=?0 and a=?0 or a<?0;");
        error(RANGE, PREPARE + "a=?^4;");
        error(RANGE, PREPARE + "a=? ^4;");
        error(RANGE, PREPARE + "a=?^10;");
        error(SYNTAX, PREPARE + "a=?^;");
        error(SYNTAX, PREPARE + "a=?^a;");
        error(SYNTAX, PREPARE + "a=?^-1;");
        error(SYNTAX, PREPARE + "a=?^?1;");
        error(SYNTAX, PREPARE + "^?0=a;");
        error(SYNTAX, PREPARE + "^1=a;");
        error(SYNTAX, TABLE + "row ^?0 1 1;");
    }

    /** sign = "&lt;" | "=" | "&gt;" */
    private static void signs() {
        for (int b = 0; b < 256; b++) {
            String sign = "" + (char) b;
            if (b == '<' || b == '=' || b == '>') {
                right(1, PREPARE + "a" + sign + "1;");
            } else if (b != ' ' && (b < 'a' || b > 'z')) {
                error(SYNTAX, PREPARE + "a^" + sign + "1;");
            }
        }
        error(SYNTAX, PREPARE + "a<^=1;");
        error(SYNTAX, PREPARE + "a=^=1;");
        error(SYNTAX, PREPARE + "a<^>1;");
        error(SYNTAX, PREPARE + "a=1^=1;");
        error(SYNTAX, PREPARE + "a=a^=a;");
    }

    /** "Parentheses and not nest at most 6 deep, together."; "TOO_DEEP: a not or an opening parenthesis inside 6 others" */
    private static void nestedAtMostSixDeep() {
        for (int set = 0; set < 64; set++) {
            StringBuilder open = new StringBuilder();
            StringBuilder close = new StringBuilder();
            for (int i = 0; i < 6; i++) {
                boolean isNot = (set >> i & 1) == 1;
                open.append(isNot ? "not " : "(");
                close.append(isNot ? "" : ")");
            }
            right(1, PREPARE + open + "a=1" + close + ";");
            error(DEEP, PREPARE + open + "^(a=1)" + close + ";");
            error(DEEP, PREPARE + open + "^not a=1" + close + ";");
            error(DEEP, PREPARE + open + "^(");
            error(DEEP, PREPARE + open + "^not");
            right(1, PREPARE + open + "a=1" + close + " and " + open + "a=2" + close + " or " + open + "a=3" + close + ";");
            error(DEEP, PREPARE + open + "a=1" + close + " and " + open + "^(a=2)" + close + ";");
            right(2, TABLE + "prepare p " + open + "a=1" + close + ";prepare q " + open + "a=1" + close + ";");
        }
        right(1, PREPARE + "(((((a=1 and (a=2)) or (a=3 and not a=4)))));");
        right(1, PREPARE + "not not not not not (a=1 and a=2);");
        error(DEEP, PREPARE + "not not not not not (a=1 and ^not a=2);");
        error(DEEP, PREPARE + "((((((a=1 or ^(a=2)))))));");
        error(DEEP, PREPARE + "((((((a=1) and (^(a=2)))))));");
        right(1, PREPARE + "((((((a=1) and (a=2))))));");
        right(1, PREPARE + "(a=1) and (a=1) and (a=1) and (a=1) and (a=1) and (a=1) and (a=1) and (a=1);");
        right(1, PREPARE + "not a=1 and not a=1 and not a=1 and not a=1 and not a=1 and not a=1 and not a=1;");
    }

    /** "The first error in the text is the one with the smallest offset." */
    private static void theFirstErrorCounts() {
        String[] wrong = {"row ^10000 1 1;", "index ^z;", "index a;index ^a;", "prepare p a=^b;", "prepare p a=1;prepare ^p a=1;",
            "prepare p ((((((^((a=1));", "prepare p a=^c and a=99999;", "prepare p ^z=z;", "prepare p a=?0 and b=^?0;",
            "prepare p ((((((a=^z)))))) and (((((((a=1;", "row 1 ^1000 2;", "cost ^100 100 100;", "tries ^100"};
        int[] due = {RANGE, UNKNOWN, DUPLICATE, MISMATCH, DUPLICATE, DEEP, MISMATCH, UNKNOWN, MISMATCH, UNKNOWN, RANGE, RANGE, RANGE};
        for (int i = 0; i < wrong.length; i++) {
            error(due[i], TABLE + wrong[i]);
            error(due[i], TABLE + wrong[i] + "!");
            error(due[i], TABLE + wrong[i] + "row 1;");
            error(due[i], TABLE + wrong[i] + "prepare p z=1;");
            error(due[i], TABLE + wrong[i].replaceAll(";$", "") + " ");
            error(SYNTAX, TABLE + "^!" + wrong[i].replace("^", ""));
            error(DUPLICATE, TABLE + "column ^a day;" + wrong[i].replace("^", ""));
        }
        error(DUPLICATE, TABLE + "column ^a text;");
        error(DUPLICATE, PREPARE + "a=1;prepare ^p z=1;");
        error(DUPLICATE, TABLE + "index a;index ^a!");
        error(UNKNOWN, PREPARE + "^z!1;");
        error(UNKNOWN, PREPARE + "^z=99999;");
        error(RANGE, PREPARE + "a=^10000!");
        error(MISMATCH, PREPARE + "a=?0 and b=^?0!");
        error(MISMATCH, PREPARE + "a=^b!");
        error(SYNTAX, "table;column ^A text;column a text;");
    }

    /** "If several kinds of error have the same offset, the first one in this list counts" */
    private static void theKindThatIsFirstInTheList() {
        // SYNTAX_ERROR before OUT_OF_RANGE: a number that is too many, and too great
        error(SYNTAX, TABLE + "row 1 1 1 ^10000;");
        error(SYNTAX, TABLE + "tries 1 ^100;");
        error(SYNTAX, TABLE + "cost 1 1 1 ^100;");
        error(SYNTAX, PREPARE + "a ^10000;");
        // SYNTAX_ERROR before UNKNOWN: what is no name
        error(SYNTAX, TABLE + "index ^abcdefghi;");
        error(SYNTAX, PREPARE + "a=^abcdefghi;");
        error(SYNTAX, PREPARE + "a=^and;");
        error(SYNTAX, TABLE + "index ^7;");
        // SYNTAX_ERROR before TOO_MANY: a column, row or statement where none may stand
        error(SYNTAX, Texts.columns(5, "day") + "index a;^column f day;");
        error(SYNTAX, "table;column a day;" + "row 1;".repeat(40) + "prepare p a=1;^row 1;");
        error(SYNTAX, TABLE + Texts.prepares(6, "a=1") + "tries 1;^prepare v a=1;");
        // SYNTAX_ERROR before TOO_DEEP: a not or a parenthesis where none may stand
        error(SYNTAX, PREPARE + "((((((a=1 ^not a=1))))));");
        error(SYNTAX, PREPARE + "((((((a=1 ^(a=1)))))));");
        error(SYNTAX, PREPARE + "not not not not not not a=^(1);");
        error(SYNTAX, PREPARE + "((((((a ^not 1))))));");
        // UNKNOWN before DUPLICATE and MISMATCH
        error(UNKNOWN, TABLE + "index a;index ^aa;");
        error(UNKNOWN, PREPARE + "c=^z;");
        // OUT_OF_RANGE of a hole's number has a greater offset than its question mark, and there is no hole to mismatch
        error(RANGE, PREPARE + "a=?0 and b=?^4;");
        error(RANGE, PREPARE + "a=?3 and b=?^4;");
        error(RANGE, PREPARE + "a=?0 and b=?^40;");
        error(SYNTAX, PREPARE + "a=?0 and b=?^;");
    }

    /** "UNKNOWN: a name that must be that of a column, but is not, at its first letter." */
    private static void columnsThatAreUnknown() {
        String table = "table;column abc day;column ab day;";
        for (String name : new String[] {"a", "b", "bc", "abcd", "ba", "abcabc", "abcdefgh", "day", "index"}) {
            error(UNKNOWN, table + "index ^" + name + ";");
            error(UNKNOWN, table + "prepare p ^" + name + "=1;");
            error(UNKNOWN, table + "prepare p ab=^" + name + ";");
            error(UNKNOWN, table + "prepare p not (ab=abc and ^" + name + "=1);");
        }
        right(1, table + "index abc;index ab;prepare p ab=abc;");
        error(UNKNOWN, "table;index ^a;");
        error(UNKNOWN, "table;prepare p ^a=1;");
        error(UNKNOWN, table + "prepare p ab=1;prepare q ^p=1;");
    }

    /** "DUPLICATE: the name of a column that another column has, or of a statement that another statement has, or that of a column that has an index already" */
    private static void namesThatAreDuplicates() {
        String five = Texts.columns(5, "day");
        for (char name = 'a'; name <= 'd'; name++) {
            error(DUPLICATE, Texts.columns(4, "day") + "column ^" + name + " day;");
            error(DUPLICATE, Texts.columns(4, "day") + "column ^" + name + " flag;");
        }
        for (char name = 'a'; name <= 'e'; name++) {
            error(DUPLICATE, five + "index a;index b;index c;index d;index e;index ^" + name + ";");
            error(DUPLICATE, five + "index " + name + ";index ^" + name + ";");
        }
        for (char name = 'p'; name <= 't'; name++) {
            error(DUPLICATE, TABLE + Texts.prepares(5, "a=1") + "prepare ^" + name + " a=1;");
        }
        right(0, "table;column a day;column aa day;column aaa day;column b day;column ba day;");
        right(0, five + "index e;index d;index c;index b;index a;");
        right(6, TABLE + "prepare a a=1;prepare aa a=1;prepare b a=1;prepare aaaaaaaa a=1;prepare aaaaaaa a=1;prepare z a=1;");
        PreparedPlans x = Checks.loaded("table;column a day;index a;prepare p a=1;");
        same("what an older text has is no duplicate", Checks.load(x, "table;column a day;index a;prepare p a=1;"), 1);
    }

    /** "MISMATCH: the second column of a comparison, at its first letter (..), if its type is another one than that of the first column" */
    private static void typesThatDoNotMatch() {
        String table = "table;column na number;column nb number;column da day;column db day;column fa flag;prepare p ";
        String[] names = {"na", "nb", "da", "db", "fa"};
        for (String first : names) {
            for (String second : names) {
                for (String sign : new String[] {"<", "=", ">"}) {
                    if (first.charAt(0) == second.charAt(0)) {
                        right(1, table + first + sign + second + ";");
                    } else {
                        error(MISMATCH, table + first + sign + "^" + second + ";");
                        error(MISMATCH, table + "not (" + first + sign + " ^" + second + ")");
                    }
                }
            }
        }
    }

    /** "or the question mark of a hole, (..) (for a hole with a number in its range: that it was compared with before in this condition)" */
    private static void holesThatDoNotMatch() {
        String[] columns = {"a", "b", "c"};
        for (int hole = 0; hole < 4; hole++) {
            for (String first : columns) {
                for (String second : columns) {
                    String start = TABLE + "prepare p " + first + "=?" + hole;
                    if (first.equals(second)) {
                        right(1, start + " and " + second + "<?" + hole + ";");
                    } else {
                        error(MISMATCH, start + " and " + second + "<^?" + hole + ";");
                        error(MISMATCH, start + " or not (c=1 or " + second + ">^?" + hole + ");");
                        right(1, start + " and " + second + "<?" + (hole + 1) % 4 + ";");
                        right(2, start + ";prepare q " + second + "=?" + hole + ";");
                    }
                }
            }
        }
        error(MISMATCH, PREPARE + "a=?1 and b=^?001;");
        error(MISMATCH, PREPARE + "a=?1 and b=^? 1;");
        error(MISMATCH, PREPARE + "a=?1 and a=?1 and b= ^?1;");
    }

    /** "TOO_MANY: a 6th column, a 41st row or a 7th statement, at the first letter of its statement." */
    private static void tooMany() {
        String five = Texts.columns(5, "day");
        String rows = "table;column a day;" + "row 1;".repeat(40);
        String statements = TABLE + Texts.prepares(6, "a=1");
        right(0, five);
        right(0, rows);
        right(6, statements);
        String[] columns = {"column f day;", "column a day;", "column f text;", "column;", "column", "column or day;"};
        for (String column : columns) {
            error(MANY, five + "^" + column);
        }
        String[] more = {"row 2;", "row 1000;", "row 1 1;", "row;", "row"};
        for (String row : more) {
            error(MANY, rows + "^" + row);
        }
        String[] prepares = {"prepare v a=1;", "prepare p a=1;", "prepare v z=1;", "prepare v a=b;", "prepare;", "prepare"};
        for (String prepare : prepares) {
            error(MANY, statements + "^" + prepare);
        }
        error(SYNTAX, five + "^columns f day;");
        error(SYNTAX, rows + "^rows 1;");
        error(SYNTAX, statements + "^prepared v a=1;");
    }
}
