/** The sentences on the setup text and its errors, and promises 2 to 4, with a test of its own for each one. */
public final class TextEdgesTest {
    private static final Checks CHECKS = new Checks();
    private static final int SYNTAX = -2;
    private static final int RANGE = -3;
    private static final int MANY = -4;
    private static final int DEEP = -5;
    private static final int MOST = 600;
    private static final String NINE = "numbers 9 2;";
    private static final String FOUR = NINE + "progression 3;equation 1 1 1 0;progression 4;equation 2 2 2 0;";

    public static void main(String[] args) {
        bufferOf600();
        grammar();
        wrongTokens();
        numbersAndWords();
        longestRuns();
        spaces();
        otherBytes();
        statementNumbers();
        equationNumbers();
        progressionNumber();
        colourNumbers();
        otherNumbers();
        factors();
        parentheses();
        oneWeight();
        firstError();
        sameOffset();
        kindsOfErrors();
        errorCodes();
        appendOrder();
        appendBeyond();
        loadFirstBytes();
        loadEmpties();
        loadErrorLeavesData();
        loadEmptyText();
        loadAnswer();
        loadRefused();
        errorOffset();
        CHECKS.finish();
    }

    /** A text of 600 bytes: the head, spaces, and the rest at the very end. */
    private static String filled(String head, String rest) {
        return head + " ".repeat(MOST - head.length() - rest.length()) + rest;
    }

    private static void bufferOf600() {
        CHECKS.of(0, "The setup text is read from an input buffer of at most 600 bytes.");
        CHECKS.dueRules(1, filled(NINE, "progression 3;"));
        CHECKS.dueRules(0, filled(NINE, ""));
        CHECKS.dueRules(0, NINE + "colour 1 0;".repeat(53));
        CHECKS.dueError(SYNTAX, filled(NINE, "progression 3"), "");
        CHECKS.dueError(SYNTAX, filled(NINE, "?").substring(0, MOST - 1), "?");
        CHECKS.dueError(RANGE, filled(NINE, "progression 7").substring(0, MOST - 1), "7");
        CHECKS.dueError(SYNTAX, filled("", ";").substring(0, MOST - 1), ";");
        CHECKS.dueError(SYNTAX, filled("", ""), "");
        CHECKS.dueError(SYNTAX, filled("", "numbers"), "");
        CHECKS.dueError(SYNTAX, "", "?".repeat(MOST));
        CHECKS.dueError(SYNTAX, "", "a".repeat(MOST));
        // 276 ones fill the 600 bytes; they weigh the one conflict, of the number 1.
        String sum = NINE + "equation 1 1 1 1;colour 1 0;weight 1" + "+1".repeat(275) + ";";
        CHECKS.due("the weight of the longest sum", Checks.loaded(sum + " ".repeat(MOST - sum.length())).totalWeight(), 276);
    }

    private static final String[] ALL_TOKENS = {
        "numbers", " 9", " 2", ";", "equation", " 1", " 2", " 3", " 4", ";", "equation", " 1", " 1", " 1", " -", " 5", " distinct", ";",
        "equation", " 2", " 2", " 3", " 0", " distinct", ";", "progression", " 3", ";", "colour", " 1", " 0", ";", "colour", " 9", " 1",
        " fixed", ";", "weight", " 1", "+", "rule", "-", " largest", "*", "colour", "/", "(", "2", "+", "(", "3", ")", "-", "rule", ")",
        "*", "4", ";", "colour", " 2", " 1", ";"
    };

    private static void grammar() {
        CHECKS.of(0, "Its grammar is:");
        StringBuilder text = new StringBuilder();
        int rules = 0;
        CHECKS.dueError(SYNTAX, "", "");
        for (String token : ALL_TOKENS) {
            text.append(token);
            rules += token.equals("equation") || token.equals("progression") ? 1 : 0;
            if (token.equals(";")) {
                CHECKS.dueRules(rules, text.toString());
                CHECKS.dueRules(rules, text + "   ");
            } else {
                CHECKS.dueError(SYNTAX, text.toString(), "");
                CHECKS.dueError(SYNTAX, text + "  ", "");
            }
            CHECKS.dueError(SYNTAX, text.toString(), "?");
            CHECKS.dueError(SYNTAX, text + " ", "? ;");
            CHECKS.dueError(SYNTAX, text + " ", "x;");
        }
    }

    private static void wrongTokens() {
        CHECKS.of(0, "  - SYNTAX_ERROR: a token or byte that the grammar does not allow here, at its first byte; the end of the text, at its length, if the text ends too early; a second weight, at its first letter.");
        String[][] texts = {
            {"", "9 2;"}, {"", ";"}, {"", "equation 1 1 1 0;"}, {"numbers ", "numbers 9 2;"}, {"numbers ", "- 9 2;"}, {"numbers 9 ", "-2;"},
            {"numbers 9", ";"}, {"numbers 9 2", "progression 3;"}, {"numbers 9 2 ", "2;"}, {NINE, ";"}, {NINE, "numbers 9 2;"},
            {NINE, "3;"}, {NINE, "(1);"}, {NINE, "distinct;"}, {NINE, "fixed;"}, {NINE, "rule;"}, {NINE, "largest;"}, {NINE, "-"},
            {NINE + "equation ", ";"}, {NINE + "equation ", "-1 1 1 0;"}, {NINE + "equation 1 ", "-1 1 0;"}, {NINE + "equation 1 1 ", "-1 0;"},
            {NINE + "equation 1 1 1 ", "+0;"}, {NINE + "equation 1 1 1 ", ";"}, {NINE + "equation 1 1 1 ", "distinct;"},
            {NINE + "equation 1 1 1 -", "-1;"}, {NINE + "equation 1 1 1 -", ";"}, {NINE + "equation 1 1 1 -", "distinct;"},
            {NINE + "equation 1 1 1 0 ", "-;"}, {NINE + "equation 1 1 1 0 ", "0;"}, {NINE + "equation 1 1 1 0 ", "fixed;"},
            {NINE + "equation 1 1 1 0 distinct ", "distinct;"}, {NINE + "equation ", "distinct 1 1 1 0;"},
            {NINE + "progression ", ";"}, {NINE + "progression ", "-3;"}, {NINE + "progression 3 ", "4;"}, {NINE + "progression 3 ", "distinct;"},
            {NINE + "colour ", ";"}, {NINE + "colour 1", ";"}, {NINE + "colour ", "-1 0;"}, {NINE + "colour 1 ", "-1;"},
            {NINE + "colour 1 ", "fixed;"}, {NINE + "colour 1 0 ", "distinct;"}, {NINE + "colour 1 0 ", "0;"},
            {NINE + "colour 1 0 fixed ", "fixed;"}, {NINE + "colour ", "fixed 1 0;"}, {NINE + "colour ", "largest;"},
            {NINE + "weight ", ";"}, {NINE + "weight ", "-1;"}, {NINE + "weight ", "+1;"}, {NINE + "weight ", "*1;"}, {NINE + "weight ", ")"},
            {NINE + "weight 1 ", "1;"}, {NINE + "weight 1 ", "rule;"}, {NINE + "weight rule ", "1;"}, {NINE + "weight rule ", "largest;"},
            {NINE + "weight 1 ", "(1);"}, {NINE + "weight (1)", "(1);"}, {NINE + "weight (1)", "1;"}, {NINE + "weight (1)", "colour;"},
            {NINE + "weight 1+", ";"}, {NINE + "weight 1-", ";"}, {NINE + "weight 1*", ";"}, {NINE + "weight 1/", ";"},
            {NINE + "weight 1+", "+1;"}, {NINE + "weight 1-", "-1;"}, {NINE + "weight 1*", "*1;"}, {NINE + "weight 1/", "-1;"},
            {NINE + "weight (", ");"}, {NINE + "weight (1", ";"}, {NINE + "weight (1+", ");"}, {NINE + "weight 1", ");"},
            {NINE + "weight (1)", ");"}, {NINE + "weight ", "number;"}, {NINE + "weight ", "distinct;"}, {NINE + "weight ", "weight 1;"}
        };
        for (String[] text : texts) {
            CHECKS.dueError(SYNTAX, text[0], text[1]);
        }
    }

    private static void numbersAndWords() {
        CHECKS.of(0, "A number is a run of decimal digits, of any length (leading zeros do not matter); a word is a run of the letters a to z.");
        String zeros = "0".repeat(MOST - "numbers 40 4;".length());
        CHECKS.dueRules(0, "numbers " + zeros + "40 4;");
        CHECKS.dueRules(0, "numbers 40 " + zeros + "4;");
        CHECKS.dueError(RANGE, "numbers ", zeros + " 4;");
        CHECKS.dueError(RANGE, "numbers ", zeros + "41 4;");
        CHECKS.dueError(RANGE, "numbers ", "9".repeat(MOST - "numbers  4;".length()) + " 4;");
        SumColouring x = Checks.loaded("numbers 000040 00004;");
        CHECKS.due("n behind zeros", x.numberCount(), 40);
        CHECKS.due("k behind zeros", x.colourCount(), 4);
        // Numbers whose value would wrap around to a small one in 32, in 64 or in 128 bits.
        String[] wrapped = {"4294967297", "8589934593", "18446744073709551617", "340282366920938463463374607431768211457", "2147483648"};
        for (String number : wrapped) {
            CHECKS.dueError(RANGE, "numbers ", number + " 2;");
            CHECKS.dueError(RANGE, NINE + "weight ", number + ";");
        }
        for (int digit = 0; digit <= 9; digit++) {
            String text = NINE + "equation 1 1 1 1;colour 1 0;weight ";
            CHECKS.due("the digit " + digit, Checks.loaded(text + digit + ";").totalWeight(), digit);
            CHECKS.due("the digit " + digit + " behind 5", Checks.loaded(text + 5 + digit + ";").totalWeight(), 50 + digit);
        }
        // A letter makes the word another one; any other neighbour of the letters and digits ends the run.
        for (char letter = 'a'; letter <= 'z'; letter++) {
            CHECKS.dueError(SYNTAX, "", "numbers" + letter + " 9 2;");
        }
        for (String other : new String[] {"`", "{", "/", ":", "A", "Z", "[", "@", "\u00e9"}) {
            CHECKS.dueError(SYNTAX, "", other + NINE);
            CHECKS.dueError(SYNTAX, "numbers", other + " 9 2;");
            CHECKS.dueError(SYNTAX, "numbers 9", other + " 2;");
        }
        CHECKS.dueError(SYNTAX, "", "Numbers 9 2;");
        CHECKS.dueError(SYNTAX, "", "numberS 9 2;");
    }

    private static void longestRuns() {
        CHECKS.of(0, "Each run is as long as possible.");
        CHECKS.due("n of two digits", Checks.loaded("numbers 12 1;").numberCount(), 12);
        CHECKS.dueError(RANGE, "numbers ", "92;");
        CHECKS.dueError(SYNTAX, "numbers 12", ";");
        CHECKS.dueError(RANGE, NINE + "equation ", "1110;");
        CHECKS.dueError(RANGE, NINE + "equation 1 ", "11 0;");
        CHECKS.dueError(SYNTAX, "", "numbersnumbers 9 2;");
        CHECKS.dueError(SYNTAX, "", "number 9 2;");
        CHECKS.dueError(SYNTAX, NINE, "equations 1 1 1 0;");
        CHECKS.dueError(SYNTAX, NINE, "progressionprogression 3;");
        CHECKS.dueError(SYNTAX, NINE + "equation 1 1 1 0", "distinctdistinct;");
        CHECKS.dueError(SYNTAX, NINE + "equation 1 1 1 0", "distinc;");
        CHECKS.dueError(SYNTAX, NINE + "colour 1 0", "fixedcolour 2 0;");
        CHECKS.dueError(SYNTAX, NINE, "weightrule;");
        CHECKS.dueError(SYNTAX, NINE, "weigh 1;");
        CHECKS.dueError(SYNTAX, NINE + "weight ", "rulelargest;");
        CHECKS.dueError(SYNTAX, NINE + "weight ", "r;");
    }

    private static boolean isDigit(char c) {
        return c >= '0' && c <= '9';
    }

    private static boolean isLetter(char c) {
        return c >= 'a' && c <= 'z';
    }

    /** All tokens with so many spaces before each one, or with a space only where two runs would become one. */
    private static String joined(int spaces) {
        StringBuilder text = new StringBuilder();
        char last = ' ';
        for (String token : ALL_TOKENS) {
            char first = token.trim().charAt(0);
            boolean needed = isDigit(last) && isDigit(first) || isLetter(last) && isLetter(first);
            text.append(" ".repeat(spaces == 0 && needed ? 1 : spaces)).append(token.trim());
            last = text.charAt(text.length() - 1);
        }
        return text.toString();
    }

    private static void spaces() {
        CHECKS.of(0, "Spaces (byte 32) may precede any token and may follow the last one; a word and a number side by side need none between them.");
        String close = joined(0);
        CHECKS.holds("no space beside a word or a sign", !close.matches(".*[^0-9] .*|.* [^0-9].*"));
        String due = Checks.state(Checks.loaded(String.join("", ALL_TOKENS)));
        CHECKS.due("the state without spaces", Checks.state(Checks.loaded(close)), due);
        for (int spaces = 1; spaces <= 5; spaces++) {
            CHECKS.due("the state with " + spaces + " spaces", Checks.state(Checks.loaded(joined(spaces))), due);
            CHECKS.due("with " + spaces + " spaces behind it", Checks.state(Checks.loaded(close + " ".repeat(spaces))), due);
        }
        CHECKS.dueError(SYNTAX, "", "num bers 9 2;");
        CHECKS.dueError(SYNTAX, "numbers 4 1 ", "2;");
        CHECKS.dueError(SYNTAX, NINE + "equation 1 1 1 0 ", "dis tinct;");
    }

    private static void otherBytes() {
        CHECKS.of(0, "No other byte separates tokens.");
        for (char b = 0; b <= 255; b++) {
            if (b == ' ') {
                continue;
            }
            CHECKS.dueError(SYNTAX, "", b + NINE);
            CHECKS.dueError(SYNTAX, NINE, String.valueOf(b));
            CHECKS.dueError(SYNTAX, NINE + "  ", b + "  ");
            if (!isDigit(b)) {
                CHECKS.dueError(SYNTAX, isLetter(b) ? "" : "numbers", (isLetter(b) ? "numbers" : "") + b + "9 2;");
                CHECKS.dueError(SYNTAX, "numbers 9", b + "2;");
                CHECKS.dueError(SYNTAX, "numbers 9 ", b + " 2;");
                CHECKS.dueError(SYNTAX, "numbers 9 2" + (b == ';' ? ";" : ""), b + ";");
            }
            if (!isDigit(b) && "+-*/;".indexOf(b) < 0) {
                CHECKS.dueError(SYNTAX, NINE + "weight 1", b + "2;");
            }
        }
    }

    private static void statementNumbers() {
        CHECKS.of(0, "The numbers of numbers are n and k.");
        SumColouring x = Checks.loaded("numbers 3 4;");
        CHECKS.due("n", x.numberCount(), 3);
        CHECKS.due("k", x.colourCount(), 4);
        CHECKS.dueRules(0, "numbers 40 1;");
        CHECKS.dueError(RANGE, "numbers 1 ", "40;");
    }

    private static void equationNumbers() {
        CHECKS.of(0, "Those of equation are a, b, c and the amount of d (0 to 99), which is negative with the sign -.");
        int[][] sets = {{1, 2, 8}, {2, 4}, {2, 6}, {3, 4, 5}, {1, 2, 3}, {2}, {9}};
        for (int[] set : sets) {
            StringBuilder text = new StringBuilder(NINE + "equation 1 2 3 4;");
            for (int v : set) {
                text.append("colour ").append(v).append(" 0;");
            }
            CHECKS.due("conflicts of " + text, Checks.loaded(text.toString()).conflicts(), solutionsWithin(set));
        }
        CHECKS.due("x + y = z + 5", Checks.loaded(NINE + "equation 1 1 1 5;").solutions(0), 61);
        CHECKS.due("x + y = z - 5", Checks.loaded(NINE + "equation 1 1 1 -5;").solutions(0), 6);
        CHECKS.due("x + y = z - 5 with a space", Checks.loaded(NINE + "equation 1 1 1 - 5;").solutions(0), 6);
        CHECKS.due("x + y = z", Checks.loaded(NINE + "equation 1 1 1 0;").solutions(0), 36);
        CHECKS.due("x + y = z - 0", Checks.loaded(NINE + "equation 1 1 1 -0;").solutions(0), 36);
        CHECKS.dueRules(2, NINE + "equation 1 1 1 99;equation 1 1 1 -99;");
        CHECKS.dueError(RANGE, NINE + "equation 1 1 1 ", "100;");
        CHECKS.dueError(RANGE, NINE + "equation 1 1 1 -", "100;");
        CHECKS.dueError(RANGE, NINE + "equation 1 1 1 - ", "100 distinct;");
    }

    /** Of x + 2 * y = 3 * z + 4. */
    private static int solutionsWithin(int[] set) {
        int found = 0;
        for (int x : set) {
            for (int y : set) {
                for (int z : set) {
                    found += x + 2 * y == 3 * z + 4 ? 1 : 0;
                }
            }
        }
        return found;
    }

    private static void progressionNumber() {
        CHECKS.of(0, "The number of progression is its length.");
        int[] due = {6, 3, 2, 1};
        for (int length = 3; length <= 6; length++) {
            CHECKS.due("length " + length + " up to 6", Checks.loaded("numbers 6 1;progression " + length + ";").solutions(0), due[length - 3]);
        }
    }

    private static void colourNumbers() {
        CHECKS.of(0, "colour gives a number (the first one) a colour (the second one); a later statement for the same number replaces an earlier one.");
        CHECKS.due("3 with 1", Checks.picture(Checks.loaded("numbers 3 4;colour 3 1;")), "..b");
        CHECKS.due("1 with 3", Checks.picture(Checks.loaded("numbers 3 4;colour 1 3;")), "d..");
        CHECKS.due("the greatest of both", Checks.picture(Checks.loaded("numbers 3 4;colour 3 3 fixed;")), "..D");
        CHECKS.due("a later colour", Checks.picture(Checks.loaded("numbers 3 4;colour 2 3;colour 1 1;colour 2 0;")), "ba.");
        CHECKS.due("fixed, then not", Checks.picture(Checks.loaded("numbers 3 4;colour 2 3 fixed;colour 2 3;")), ".d.");
        CHECKS.due("not fixed, then fixed", Checks.picture(Checks.loaded("numbers 3 4;colour 2 3;colour 2 1 fixed;")), ".B.");
        CHECKS.due("three of them", Checks.picture(Checks.loaded("numbers 3 4;colour 2 0 fixed;colour 2 1;colour 2 2 fixed;")), ".C.");
        CHECKS.dueError(RANGE, "numbers 3 4;colour ", "0 0;");
        CHECKS.dueError(RANGE, "numbers 3 4;colour ", "4 0;");
        CHECKS.dueError(RANGE, "numbers 3 4;colour 3 ", "4;");
        CHECKS.dueError(RANGE, "numbers 3 2;colour 3 ", "2 fixed;");
        CHECKS.dueError(RANGE, "numbers 1 1;colour ", "2 0;");
        CHECKS.dueError(RANGE, "numbers 1 1;colour 1 ", "1;");
        CHECKS.due("the only number and colour", Checks.picture(Checks.loaded("numbers 1 1;colour 1 0;")), "a");
        CHECKS.due("the last number and colour", Checks.loaded("numbers 40 4;colour 40 3;").colour(40), 3);
        CHECKS.dueError(RANGE, "numbers 40 4;colour ", "41 3;");
    }

    private static void otherNumbers() {
        CHECKS.of(0, "Other numbers have no colour.");
        CHECKS.due("without a statement", Checks.picture(Checks.loaded("numbers 4 2;")), "....");
        CHECKS.due("with one", Checks.picture(Checks.loaded("numbers 4 2;colour 3 0;")), "..a.");
        SumColouring x = Checks.loaded("numbers 4 2;colour 1 0;colour 2 1 fixed;colour 3 0;colour 4 1 fixed;");
        Checks.load(x, "numbers 4 2;colour 3 1;");
        CHECKS.due("also those that had one before the load", Checks.picture(x), "..b.");
    }

    private static void factors() {
        CHECKS.of(0, "A number as a factor is 0 to 9999.");
        CHECKS.dueRules(0, NINE + "weight 0;");
        CHECKS.dueRules(0, NINE + "weight 9999;");
        CHECKS.dueRules(0, NINE + "weight 0+9999-0*9999/(0)*(9999);");
        for (String before : new String[] {"", "1+", "1-", "1*", "1/", "(", "rule*(colour+", "((((", "9999*9999-"}) {
            CHECKS.dueError(RANGE, NINE + "weight " + before, "10000;");
            CHECKS.dueError(RANGE, NINE + "weight " + before, "99999999999999999999;");
        }
    }

    private static void parentheses() {
        CHECKS.of(0, "Parentheses nest at most 4 deep.");
        CHECKS.dueRules(0, NINE + "weight (1);");
        CHECKS.dueRules(0, NINE + "weight ((((1))));");
        CHECKS.dueRules(0, NINE + "weight 1+(2*(3-(4/(5+rule)*colour)));");
        CHECKS.dueRules(0, NINE + "weight ((((1)))+(((2))))*((((3))))" + "-((((4))))".repeat(40) + ";");
        CHECKS.dueError(DEEP, NINE + "weight ((((", "(1)))));");
        CHECKS.dueError(DEEP, NINE + "weight ((((1))))+((((2+", "(3)))));");
        CHECKS.dueError(DEEP, NINE + "weight (1+(2*(3-(4/", "(5)))));");
        CHECKS.dueError(DEEP, NINE + "weight ((((", "(".repeat(MOST - 23));
        // The deepest sum that is allowed is reckoned with all its operations waiting.
        String text = NINE + "equation 1 1 1 1;colour 1 0;weight 1+2*(3+2*(5+2*(7+2*(11+2*13))));";
        CHECKS.due("the weight of the deepest sum", Checks.loaded(text).totalWeight(), 1 + 2 * (3 + 2 * (5 + 2 * (7 + 2 * 37))));
    }

    private static void oneWeight() {
        CHECKS.of(0, "The statement weight may occur once.");
        CHECKS.dueRules(0, NINE);
        CHECKS.dueRules(0, NINE + "weight 0;");
        CHECKS.dueRules(1, NINE + "colour 1 0;progression 3;weight 7;colour 2 0;");
        CHECKS.dueError(SYNTAX, NINE + "weight 0;", "weight 0;");
        CHECKS.dueError(SYNTAX, NINE + "weight 1;progression 3;colour 1 0;  ", "weight 1;");
        CHECKS.dueError(SYNTAX, NINE + "weight 1;", "weight 99999;");
        CHECKS.dueError(SYNTAX, NINE + "weight 1;", "weight");
        CHECKS.dueError(SYNTAX, NINE + "weight 1;", "weight (((((1)))));");
        // The next text may have a weight again.
        SumColouring x = Checks.loaded(NINE + "weight 1;");
        CHECKS.due("a weight in the next text", Checks.load(x, NINE + "weight 2;"), 0);
        Checks.load(x, NINE + "weight 2;?");
        CHECKS.due("a weight after a wrong text", Checks.load(x, NINE + "weight 2;"), 0);
    }

    private static void firstError() {
        CHECKS.of(0, "The first error in the text is the one with the smallest offset.");
        int[] codes = {SYNTAX, RANGE, MANY, DEEP, SYNTAX};
        String[] rights = {"", "colour ", "", "weight ((((", "colour 1 1 "};
        String[] wrongs = {"?;", "10 2;", "progression 9;", "(1)))));", "distinct;"};
        for (int i = 0; i < codes.length; i++) {
            for (int j = 0; j < codes.length; j++) {
                CHECKS.dueError(codes[i], FOUR + rights[i], wrongs[i] + rights[j] + wrongs[j]);
            }
        }
        CHECKS.dueError(RANGE, "numbers ", "41 5?");
        CHECKS.dueError(RANGE, "numbers ", "0");
        CHECKS.dueError(RANGE, NINE + "equation ", "0 10 0 100 fixed;");
        CHECKS.dueError(RANGE, NINE + "weight ((((", "10000+(1)))));");
        CHECKS.dueError(DEEP, NINE + "weight ((((", "(10000))))");
        CHECKS.dueError(MANY, FOUR, "equation 0 ?");
    }

    private static void sameOffset() {
        CHECKS.of(0, "If several kinds of error have the same offset, the first one in this list counts:");
        // A number that is not allowed here, and would be in no range.
        CHECKS.dueError(SYNTAX, "", "99999999999 9 2;");
        CHECKS.dueError(SYNTAX, "numbers 9 2 ", "99999;");
        CHECKS.dueError(SYNTAX, NINE, "99999;");
        CHECKS.dueError(SYNTAX, NINE + "equation 1 1 1 0 ", "100;");
        CHECKS.dueError(SYNTAX, NINE + "weight 1 ", "10000;");
        CHECKS.dueError(SYNTAX, NINE + "weight (1)", "10000;");
        // A fifth rule where no statement may begin.
        CHECKS.dueError(SYNTAX, FOUR + "colour 1 0 ", "equation 1 1 1 0;");
        CHECKS.dueError(SYNTAX, FOUR + "weight 1 ", "progression 3;");
        CHECKS.dueError(SYNTAX, FOUR.substring(0, FOUR.length() - 1) + " ", "progression 3;");
        // A parenthesis inside 4 others where none may stand.
        CHECKS.dueError(SYNTAX, NINE + "weight ((((1", "(1)))));");
        CHECKS.dueError(SYNTAX, NINE + "weight ((((rule ", "(1)))));");
    }

    private static void kindsOfErrors() {
        CHECKS.of(0, "  - OUT_OF_RANGE: a number outside its range, at its first digit.");
        String[] places = {"numbers #", "numbers 9 #", "equation #", "equation 1 #", "equation 1 1 #", "equation 1 1 1 #", "equation 1 1 1 -#",
            "progression #", "colour #", "colour 9 #", "weight #", "weight (rule*#"};
        int[] least = {1, 1, 1, 1, 1, 0, 0, 3, 1, 0, 0, 0};
        int[] most = {40, 4, 9, 9, 9, 99, 99, 6, 9, 1, 9999, 9999};
        for (int i = 0; i < places.length; i++) {
            String before = (i < 2 ? "" : NINE) + places[i].substring(0, places[i].length() - 1);
            if (least[i] > 0) {
                CHECKS.dueError(RANGE, before, least[i] - 1 + "");
                CHECKS.dueError(RANGE, before + "  ", "000" + (least[i] - 1) + " ;");
            }
            CHECKS.dueError(RANGE, before, most[i] + 1 + "");
            CHECKS.dueError(RANGE, before + "  ", "000" + (most[i] + 1) + " ;");
            // A number inside its range lets the text end too early.
            CHECKS.dueError(SYNTAX, before + least[i], "");
            CHECKS.dueError(SYNTAX, before + "  000" + most[i], "");
        }
        CHECKS.of(0, "  - TOO_MANY: a rule beyond the maximum number, at the first letter of its statement.");
        CHECKS.dueRules(4, FOUR);
        CHECKS.dueError(MANY, FOUR, "equation 1 1 1 0;");
        CHECKS.dueError(MANY, FOUR, "progression 3;");
        CHECKS.dueError(MANY, FOUR + "   ", "equation");
        CHECKS.dueError(MANY, FOUR + "colour 1 0;weight rule;", "progression 3;equation 1 1 1 0;");
        CHECKS.dueError(SYNTAX, FOUR, "equations 1 1 1 0;");
        CHECKS.dueError(MANY, NINE + "equation 1 1 1 0;".repeat(4), "equation 1 1 1 0;");
        CHECKS.dueError(MANY, NINE + "progression 3;".repeat(4) + "colour 1 0;  ", "progression 3;");
        CHECKS.of(0, "  - TOO_DEEP: an opening parenthesis inside 4 others, at that parenthesis.");
        CHECKS.dueError(DEEP, NINE + "weight ((((", "(");
        CHECKS.dueError(DEEP, NINE + "weight (((( ", "((1))))));");
        CHECKS.dueError(DEEP, NINE + "weight (1)+((2))+(((3)))+((((4))))+((((5-", "(6)))));");
        CHECKS.dueError(DEEP, NINE + "weight (((1*(2)/(", "(3)))));");
    }

    private static void errorCodes() {
        CHECKS.of(0, "- `SYNTAX_ERROR = -2`: Error code of load: the text does not follow the grammar.");
        CHECKS.due("SYNTAX_ERROR", SumColouring.SYNTAX_ERROR, SYNTAX);
        CHECKS.due("load", Checks.load(new SumColouring(), "x"), SumColouring.SYNTAX_ERROR);
        CHECKS.of(0, "- `OUT_OF_RANGE = -3`: Error code of load: a number is not allowed.");
        CHECKS.due("OUT_OF_RANGE", SumColouring.OUT_OF_RANGE, RANGE);
        CHECKS.due("load", Checks.load(new SumColouring(), "numbers 0"), SumColouring.OUT_OF_RANGE);
        CHECKS.of(0, "- `TOO_MANY = -4`: Error code of load: too many rules.");
        CHECKS.due("TOO_MANY", SumColouring.TOO_MANY, MANY);
        CHECKS.due("load", Checks.load(new SumColouring(), FOUR + "progression"), SumColouring.TOO_MANY);
        CHECKS.of(0, "- `TOO_DEEP = -5`: Error code of load: parentheses are nested too deeply.");
        CHECKS.due("TOO_DEEP", SumColouring.TOO_DEEP, DEEP);
        CHECKS.due("load", Checks.load(new SumColouring(), NINE + "weight ((((("), SumColouring.TOO_DEEP);
    }

    private static void appendOrder() {
        CHECKS.of(2, "Appends 20 bytes to the input buffer: the 4 bytes of each argument, the most significant byte first.");
        SumColouring x = new SumColouring();
        for (int place = 0; place < 20; place++) {
            // One byte that is no space: the error lies at its place.
            for (int other : new int[] {'?', 0, 1, 127, 128, 255}) {
                int[] w = {0x20202020, 0x20202020, 0x20202020, 0x20202020, 0x20202020};
                int shift = 24 - place % 4 * 8;
                w[place / 4] = w[place / 4] & ~(255 << shift) | other << shift;
                CHECKS.due("append", x.append(w[0], w[1], w[2], w[3], w[4]), 20);
                CHECKS.due("load of the byte " + other, x.load(20), SYNTAX);
                CHECKS.due("its place", x.errorOffset(), place);
            }
        }
        CHECKS.due("append numb ers  7 3    ;", x.append(0x6e756d62, 0x65727320, 0x37203320, 0x20202020, 0x2020203b), 20);
        CHECKS.due("its load", x.load(20), 0);
        CHECKS.due("its n", x.numberCount(), 7);
    }

    private static void appendBeyond() {
        CHECKS.of(2, "Returns the new length of the buffer; -1 if it would exceed 600 bytes, and the buffer is unchanged then.");
        SumColouring x = new SumColouring();
        for (int i = 1; i <= 30; i++) {
            CHECKS.due("append " + i, x.append(0x20202020, 0x20202020, 0x20202020, 0x20202020, i == 30 ? 0x2020203f : 0x20202020), 20 * i);
        }
        for (int i = 0; i < 3; i++) {
            CHECKS.due("append to a full buffer", x.append(0x3f3f3f3f, 0x3f3f3f3f, 0x3f3f3f3f, 0x3f3f3f3f, 0x3f3f3f3f), -1);
        }
        CHECKS.dueNoArgument("load(601)", () -> x.load(601));
        CHECKS.due("load(600)", x.load(600), SYNTAX);
        CHECKS.due("the error in the last byte", x.errorOffset(), 599);
        CHECKS.due("append after the load", x.append(0, 0, 0, 0, 0), 20);
    }

    private static void loadFirstBytes() {
        CHECKS.of(3, "Reads the first bytes of the input buffer as a setup text and replaces all data by it.");
        SumColouring x = Checks.loaded("numbers 9 3;progression 3;equation 1 1 1 0;weight 7;colour 1 2 fixed;colour 2 2;colour 3 2;");
        Checks.load(x, "numbers 3 4;progression 3;colour 1 3;colour 2 3;");
        CHECKS.due("n", x.numberCount(), 3);
        CHECKS.due("k", x.colourCount(), 4);
        CHECKS.due("rules", x.ruleCount(), 1);
        CHECKS.due("solutions", x.solutions(0), 1);
        CHECKS.due("picture", Checks.picture(x), "dd.");
        CHECKS.due("allowed(3)", x.allowed(3), 7);
        x.setColour(3, 3);
        CHECKS.due("the weight is that of a text without a weight", x.totalWeight(), 1);
        SumColouring same = Checks.loaded("numbers 3 4;progression 3;colour 1 3;colour 2 3;colour 3 3;");
        CHECKS.due("the state of an object made anew", Checks.state(x), Checks.state(same));
        replacesAll();
        CHECKS.of(3, "- `length`: the number of bytes to read");
        String text = "numbers 9 2;progression 3;   ?";
        for (int length = 0; length <= text.length(); length++) {
            SumColouring y = new SumColouring();
            Checks.fill(y, text);
            boolean good = length == 12 || length >= 26 && length < text.length();
            CHECKS.due("load(" + length + ")", y.load(length), good ? length / 26 : SYNTAX);
            // Where the bytes end in the word progression, that word is the wrong token; spaces never are.
            int place = length > 12 && length < 23 ? 12 : length == text.length() ? length - 1 : length;
            place = length > 0 && length < 7 ? 0 : place;
            CHECKS.due("errorOffset of load(" + length + ")", y.errorOffset(), good ? -1 : place);
        }
    }

    private static void replacesAll() {
        String[] texts = {"numbers 1 1;", "numbers 40 4;" + "equation 1 1 1 20;".repeat(4) + "colour 1 0 fixed;colour 40 3 fixed;weight largest;",
            "numbers 9 2;equation 1 1 1 1;colour 9 1;", "numbers 9 2;colour 1 0;", "numbers 6 3;progression 3;progression 4;weight rule;colour 6 2;",
            "numbers 39 2;equation 1 1 1 0 distinct;", "numbers 1 4;equation 1 1 1 1;colour 1 3 fixed;weight 9;", "numbers 40 4;progression 6;"};
        SumColouring x = new SumColouring();
        for (int i = 0; i < 2 * texts.length * texts.length; i++) {
            // Each text comes after each other one.
            String text = texts[i % 2 == 0 ? i / 2 / texts.length : i / 2 % texts.length];
            Checks.load(x, text);
            SumColouring fresh = Checks.loaded(text);
            CHECKS.due("the state after another text than " + text, Checks.state(x), Checks.state(fresh));
            CHECKS.due("longest", x.longest(60), fresh.longest(60));
            CHECKS.due("canExtend", x.canExtend(x.numberCount(), 60), fresh.canExtend(x.numberCount(), 60));
        }
    }

    private static void loadEmpties() {
        CHECKS.of(3, "The input buffer is empty afterwards, also if the text has an error.");
        int[] lengths = {0, 5, 12, 20, 40};
        for (int length : lengths) {
            for (String text : new String[] {NINE, "numbers 0 2;"}) {
                SumColouring x = new SumColouring();
                Checks.fill(x, text + " ".repeat(40 - text.length()));
                x.load(length);
                CHECKS.dueRefused("load(1) of the empty buffer", IllegalArgumentException.class, x, () -> x.load(1));
                CHECKS.due("append after load(" + length + ")", x.append(0x20202020, 0x20202020, 0x20202020, 0x20202020, 0x20202020), 20);
                CHECKS.due("load of the spaces", x.load(20), SYNTAX);
                CHECKS.due("errorOffset of the spaces", x.errorOffset(), 20);
            }
        }
    }

    private static void loadErrorLeavesData() {
        CHECKS.of(3, "An error leaves all other data unchanged.");
        String[] wrong = {"", "?", "numbers 1 1", "numbers 3 4;colour 1 0;x", "numbers 5 3;colour 6 0;", FOUR + "colour 1 1;equation 1 1 1 0;",
            "numbers 7 1;equation 9 9 9 9;weight 8;colour 1 0;weight 5;", NINE + "progression 4;colour 1 1 fixed;weight 7+((((("};
        SumColouring x = Checks.loaded("numbers 6 3;progression 3;colour 1 2 fixed;colour 2 2;weight largest;");
        x.setColour(3, 2);
        long before = x.checksum();
        String picture = Checks.picture(x);
        for (String text : wrong) {
            CHECKS.holds("an error in \"" + text + "\"", Checks.load(x, text) < 0);
            CHECKS.due("checksum after \"" + text + "\"", x.checksum(), before);
            CHECKS.due("picture after \"" + text + "\"", Checks.picture(x), picture);
            CHECKS.due("n, k and rules", x.numberCount() * 100 + x.colourCount() * 10 + x.ruleCount(), 631);
            CHECKS.due("solutions", x.solutions(0), 6);
            CHECKS.due("total weight", x.totalWeight(), 3);
            CHECKS.due("allowed(5)", x.allowed(5), 3);
        }
        CHECKS.due("undo after the errors", x.undo(), 1);
        CHECKS.due("picture after undo", Checks.picture(x), "Cc....");
        SumColouring y = new SumColouring();
        Checks.load(y, "numbers 3 4;colour 1 0;x");
        CHECKS.due("n of a new object after an error", y.numberCount(), 0);
        CHECKS.due("undo of a new object after an error", y.undo(), -1);
    }

    private static void loadEmptyText() {
        CHECKS.of(3, "An empty text has a SYNTAX_ERROR.");
        SumColouring x = new SumColouring();
        CHECKS.due("load(0) of an empty buffer", x.load(0), SYNTAX);
        CHECKS.due("its errorOffset", x.errorOffset(), 0);
        Checks.fill(x, NINE);
        CHECKS.due("load(0) of a full buffer", x.load(0), SYNTAX);
        CHECKS.due("its errorOffset", x.errorOffset(), 0);
        CHECKS.due("n", x.numberCount(), 0);
    }

    private static void loadAnswer() {
        CHECKS.of(3, "Returns the number of rules; or the error code of the first error.");
        for (int rules = 0; rules <= 4; rules++) {
            CHECKS.dueRules(rules, NINE + "progression 3;".repeat(rules));
            CHECKS.dueRules(rules, NINE + "equation 1 1 1 0;".repeat(rules));
        }
        CHECKS.dueError(MANY, NINE + "progression 3;".repeat(4), "progression 3;");
    }

    private static void loadRefused() {
        CHECKS.of(3, "Throws `IllegalArgumentException` if length is negative or greater than the length of the buffer; the buffer is unchanged then");
        for (int bytes = 0; bytes <= 600; bytes += 20) {
            SumColouring x = new SumColouring();
            Checks.fill(x, bytes == 0 ? "" : filled(NINE, "progression 3;").substring(0, bytes));
            for (int length : new int[] {-1, bytes + 1, bytes + 20, Integer.MAX_VALUE, Integer.MIN_VALUE}) {
                CHECKS.dueRefused("load(" + length + ") of " + bytes + " bytes", IllegalArgumentException.class, x, () -> x.load(length));
            }
            if (bytes == 20) {
                CHECKS.due("append after the throws", x.append(0x20202020, 0x20202020, 0x20202020, 0x20202020, 0x20202020), 40);
                CHECKS.due("load(40) after it", x.load(40), 0);
            } else {
                CHECKS.due("load(" + bytes + ") after the throws", x.load(bytes), bytes == 0 ? SYNTAX : bytes == 600 ? 1 : 0);
            }
        }
    }

    private static void errorOffset() {
        CHECKS.of(4, "Returns the offset of the error found by the latest call of load that did not throw; -1 if it found none or if there was no such call.");
        SumColouring x = new SumColouring();
        CHECKS.due("of a new object", x.errorOffset(), -1);
        CHECKS.dueNoArgument("load(1)", () -> x.load(1));
        CHECKS.due("after a throw", x.errorOffset(), -1);
        x.load(0);
        CHECKS.due("after an empty text", x.errorOffset(), 0);
        Checks.load(x, "numbers 9 2");
        CHECKS.due("after a text that ends too early", x.errorOffset(), 11);
        CHECKS.dueNoArgument("load(-1)", () -> x.load(-1));
        CHECKS.due("after another throw", x.errorOffset(), 11);
        Checks.fill(x, NINE);
        CHECKS.due("after append", x.errorOffset(), 11);
        x.load(12);
        CHECKS.due("after a right text", x.errorOffset(), -1);
        CHECKS.dueNoArgument("load(21)", () -> x.load(21));
        CHECKS.due("after a throw behind a right text", x.errorOffset(), -1);
        Checks.load(x, " ".repeat(599) + "?");
        CHECKS.due("in the last byte", x.errorOffset(), 599);
        x.setColour(1, 0);
        CHECKS.due("after a change", x.errorOffset(), 599);
        x.undo();
        x.undo();
        CHECKS.due("after undo of the load", x.errorOffset(), 599);
        CHECKS.due("n after undo of the load", x.numberCount(), 0);
    }
}
