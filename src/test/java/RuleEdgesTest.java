/** The sentences of "Conventions" and "Rules", and promises 5 to 8, with a test of its own for each one. */
public final class RuleEdgesTest {
    private static final Checks CHECKS = new Checks();

    public static void main(String[] args) {
        division();
        nearerBound();
        numbers();
        colours();
        ruleIndexes();
        atMostFourRules();
        kindsOfRules();
        factorsAndConstant();
        triplesFrom1ToN();
        distinctTriples();
        equalNumbers();
        otherOrders();
        orderOfTriples();
        lengths();
        sequencesFrom1ToN();
        orderOfSequences();
        counts();
        noSuchRule();
        CHECKS.finish();
    }

    /** The weight of the one conflict, of the number 1 with colour 0 in rule 0. */
    private static void dueWeight(String sum, int want) {
        SumColouring x = Checks.loaded("numbers 1 1;equation 1 1 1 1;colour 1 0;weight " + sum + ";");
        CHECKS.due("weight " + sum, x.conflict(0, 4), want);
        CHECKS.due("total weight " + sum, x.totalWeight(), want);
    }

    private static SumColouring withRule(int n, String rule) {
        return Checks.loaded("numbers " + n + " 2;" + rule + ";");
    }

    private static void dueSolutions(int n, String rule, int want) {
        CHECKS.due("solutions of " + rule + " up to " + n, withRule(n, rule).solutions(0), want);
    }

    /** The smallest and the greatest number of each solution of rule 0, in their order, when all numbers have one colour. */
    private static String inOrder(int n, String rule) {
        StringBuilder text = new StringBuilder("numbers " + n + " 1;" + rule + ";");
        for (int v = 1; v <= n; v++) {
            text.append("colour ").append(v).append(" 0;");
        }
        SumColouring x = Checks.loaded(text.toString());
        StringBuilder line = new StringBuilder();
        for (int i = 0; i < x.conflicts(); i++) {
            line.append(i > 0 ? " " : "").append(x.conflict(i, 1)).append('-').append(x.conflict(i, 2));
        }
        return line.toString();
    }

    private static void division() {
        CHECKS.of(0, "Division truncates toward zero.");
        dueWeight("7/2", 3);
        dueWeight("1/2", 0);
        dueWeight("9999/9998", 1);
        dueWeight("10+(0-7)/2", 7);
        dueWeight("10+7/(0-2)", 7);
        dueWeight("10+(0-7)/(0-2)", 13);
        dueWeight("10+(0-1)/2", 10);
        dueWeight("10+1/(0-9999)", 10);
        dueWeight("10+(0-8)/2", 6);
    }

    private static void nearerBound() {
        CHECKS.of(0, "A number that is limited to a range becomes the nearer bound if it is outside of it.");
        dueWeight("998", 998);
        dueWeight("999", 999);
        dueWeight("1000", 999);
        dueWeight("9999*9999", 999);
        dueWeight("0", 0);
        dueWeight("0-1", 0);
        dueWeight("0-9999*9999", 0);
        dueWeight("9999*9999-9999*100", 100);
        dueWeight("(0-9999)*9999+1000*1000+1", 1);
    }

    private static void numbers() {
        CHECKS.of(0, "The numbers that are coloured are 1 to n; n is 1 to 40.");
        for (int n = 1; n <= 40; n++) {
            SumColouring x = Checks.loaded("numbers " + n + " 1;");
            CHECKS.due("n", x.numberCount(), n);
            CHECKS.due("the previous colour of " + n, x.setColour(n, 0), -1);
            CHECKS.due("numbers with a colour", x.count(0), 1);
            int beyond = n + 1;
            CHECKS.dueNoNumber("colour(" + beyond + ")", () -> x.colour(beyond));
            CHECKS.dueNoNumber("colour(0)", () -> x.colour(0));
        }
        CHECKS.dueError(SumColouring.OUT_OF_RANGE, "numbers ", "0 1;");
        CHECKS.dueError(SumColouring.OUT_OF_RANGE, "numbers ", "41 1;");
    }

    private static void colours() {
        CHECKS.of(0, "Colours are 0 to k - 1; k is 1 to 4.");
        for (int k = 1; k <= 4; k++) {
            SumColouring x = Checks.loaded("numbers 1 " + k + ";");
            CHECKS.due("k", x.colourCount(), k);
            for (int c = 0; c < k; c++) {
                x.setColour(1, c);
                CHECKS.due("colour " + c, x.colour(1), c);
            }
            int beyond = k;
            CHECKS.dueNoNumber("setColour(1, " + beyond + ")", () -> x.setColour(1, beyond));
            CHECKS.dueNoNumber("count(" + beyond + ")", () -> x.count(beyond));
            CHECKS.dueNoNumber("swapColours(0, " + beyond + ")", () -> x.swapColours(0, beyond));
        }
        CHECKS.dueError(SumColouring.OUT_OF_RANGE, "numbers 1 ", "0;");
        CHECKS.dueError(SumColouring.OUT_OF_RANGE, "numbers 1 ", "5;");
    }

    private static void ruleIndexes() {
        CHECKS.of(0, "Rules have indexes from 0 in the order of their declaration.");
        SumColouring x = Checks.loaded("numbers 6 1;progression 4;colour 1 0;equation 1 1 1 0;weight 1;progression 3;equation 1 1 1 11;");
        int[] due = {3, 15, 6, 1};
        for (int rule = 0; rule < 4; rule++) {
            CHECKS.due("solutions(" + rule + ")", x.solutions(rule), due[rule]);
        }
        SumColouring y = Checks.loaded("numbers 6 1;equation 1 1 1 11;progression 3;equation 1 1 1 0;progression 4;");
        int[] other = {1, 6, 15, 3};
        for (int rule = 0; rule < 4; rule++) {
            CHECKS.due("solutions(" + rule + ") in another order", y.solutions(rule), other[rule]);
        }
    }

    private static void atMostFourRules() {
        CHECKS.of(0, "There are at most 4 rules.");
        String four = "numbers 40 1;equation 1 1 1 0;progression 3;equation 1 1 1 20;progression 6;";
        CHECKS.due("four of them", Checks.loaded(four).ruleCount(), 4);
        CHECKS.due("solutions of the last one", Checks.loaded(four).solutions(3), 140);
        CHECKS.dueError(SumColouring.TOO_MANY, four, "progression 3;");
        CHECKS.dueError(SumColouring.TOO_MANY, four, "equation 1 1 1 0;");
        CHECKS.due("none of them", Checks.loaded("numbers 40 1;").ruleCount(), 0);
        // The rules of an earlier text do not count.
        SumColouring x = Checks.loaded(four);
        CHECKS.due("four after four", Checks.load(x, four), 4);
        CHECKS.due("a text with five", Checks.load(x, four + "progression 3;"), SumColouring.TOO_MANY);
        CHECKS.due("four after five", Checks.load(x, four), 4);
    }

    private static void kindsOfRules() {
        CHECKS.of(0, "A rule is an equation or a progression.");
        CHECKS.due("one of each", Checks.loaded("numbers 3 1;equation 1 1 1 0;progression 3;").ruleCount(), 2);
        CHECKS.due("no rule in a weight or a colour", Checks.loaded("numbers 3 1;weight rule;colour 1 0;").ruleCount(), 0);
    }

    private static void factorsAndConstant() {
        CHECKS.of(0, "An equation has the factors a, b and c (1 to 9 each) and a constant d (-99 to 99).");
        dueSolutions(40, "equation 9 9 9 99", 1110);
        dueSolutions(40, "equation 9 9 9 98", 0);
        dueSolutions(40, "equation 9 9 1 99", 50);
        dueSolutions(40, "equation 1 1 9 -99", 176);
        dueSolutions(40, "equation 1 1 9 99", 0);
        dueSolutions(40, "equation 9 9 1 -99", 0);
        dueSolutions(40, "equation 1 9 9 99", 126);
        dueSolutions(40, "equation 9 1 9 99", 126);
        dueSolutions(40, "equation 1 1 1 79", 1);
        dueSolutions(40, "equation 1 1 1 80", 0);
        dueSolutions(40, "equation 1 1 1 -38", 1);
        dueSolutions(40, "equation 1 1 1 -39", 0);
        String[] before = {"", "1 ", "1 1 ", "1 1 1 ", "1 1 1 -"};
        int[] most = {9, 9, 9, 99, 99};
        for (int i = 0; i < before.length; i++) {
            String rest = " 1 1 1".substring(0, Math.max(0, 6 - 2 * i));
            CHECKS.dueRules(1, "numbers 9 2;equation " + before[i] + (i < 3 ? 1 : 0) + rest + ";");
            CHECKS.dueRules(1, "numbers 9 2;equation " + before[i] + most[i] + rest + ";");
            CHECKS.dueError(SumColouring.OUT_OF_RANGE, "numbers 9 2;equation " + before[i], most[i] + 1 + rest + ";");
            if (i < 3) {
                CHECKS.dueError(SumColouring.OUT_OF_RANGE, "numbers 9 2;equation " + before[i], "0" + rest + ";");
            }
        }
    }

    private static void triplesFrom1ToN() {
        CHECKS.of(0, "Its solutions are all triples (x, y, z) of numbers from 1 to n with a * x + b * y = c * z + d; if the equation is distinct, only those in which the three numbers are different.");
        // z would be 2, and would be 0, and is 1.
        dueSolutions(1, "equation 1 1 1 0", 0);
        dueSolutions(1, "equation 1 1 1 2", 0);
        dueSolutions(1, "equation 1 1 1 1", 1);
        dueSolutions(2, "equation 1 1 1 0", 1);
        // z would be no integer: 1/2, 3/2, -1/2.
        dueSolutions(1, "equation 1 1 2 1", 0);
        dueSolutions(1, "equation 1 2 2 0", 0);
        dueSolutions(1, "equation 1 1 2 3", 0);
        dueSolutions(2, "equation 1 1 2 -1", 2);
        // x and y up to n: the only solution is n, n.
        dueSolutions(40, "equation 1 1 1 79", 1);
        dueSolutions(40, "equation 1 1 2 0", 800);
        dueSolutions(39, "equation 1 1 2 0", 761);
        dueSolutions(40, "equation 1 1 1 20", 1200);
        for (int n = 1; n <= 40; n++) {
            dueSolutions(n, "equation 1 1 1 0", n * (n - 1) / 2);
            dueSolutions(n, "equation 9 9 9 0", n * (n - 1) / 2);
        }
    }

    private static void distinctTriples() {
        CHECKS.of(0, "if the equation is distinct, only those in which the three numbers are different.");
        // Only x and y are equal, only x and z, only y and z, all three.
        dueSolutions(2, "equation 1 1 1 0", 1);
        dueSolutions(2, "equation 1 1 1 0 distinct", 0);
        dueSolutions(2, "equation 1 2 1 2", 2);
        dueSolutions(2, "equation 1 2 1 2 distinct", 0);
        dueSolutions(2, "equation 2 1 1 2", 2);
        dueSolutions(2, "equation 2 1 1 2 distinct", 0);
        dueSolutions(1, "equation 1 1 1 1", 1);
        dueSolutions(1, "equation 1 1 1 1 distinct", 0);
        dueSolutions(3, "equation 1 1 1 0 distinct", 2);
        dueSolutions(40, "equation 1 1 1 0 distinct", 760);
        dueSolutions(40, "equation 1 1 2 0 distinct", 760);
    }

    private static void equalNumbers() {
        CHECKS.of(0, "Other triples can have equal numbers.");
        CHECKS.due("1 + 1 = 2", inOrder(2, "equation 1 1 1 0"), "1-2");
        CHECKS.due("1 + 2 = 1 + 2, and all equal", inOrder(2, "equation 1 2 1 2"), "1-1 1-2");
        CHECKS.due("1 + 2 = 1 + 2, 2 + 1 = 1 + 2 and 2 + 2 = 2 + 2", inOrder(2, "equation 1 1 1 2"), "1-2 1-2 2-2");
    }

    private static void otherOrders() {
        CHECKS.of(0, "Triples with the same numbers in another order are different solutions.");
        CHECKS.due("1 + 2 = 3 and 2 + 1 = 3", inOrder(3, "equation 1 1 1 0 distinct"), "1-3 1-3");
        // 1 + 2 = 3 and 2 + 1 = 3; 1 + 3 = 2 + 2 and 3 + 1 = 2 + 2; 2 + 3 = 1 + 4 and 3 + 2 = 1 + 4
        dueSolutions(3, "equation 1 1 1 0 distinct", 2);
        dueSolutions(3, "equation 1 1 1 2 distinct", 2);
        dueSolutions(3, "equation 1 1 1 4 distinct", 2);
        SumColouring x = Checks.loaded("numbers 3 2;equation 1 1 1 0 distinct;colour 1 1;colour 2 1;colour 3 1;");
        CHECKS.due("both are conflicts", x.conflicts(), 2);
        CHECKS.due("both are conflicts of 3", x.conflictsOf(3), 2);
        CHECKS.due("both have a weight", x.totalWeight(), 2);
    }

    private static void orderOfTriples() {
        CHECKS.of(0, "The solutions are ordered by x, those with the same x by y.");
        CHECKS.due("x + 2 * y = z", inOrder(9, "equation 1 2 1 0"),
            "1-3 1-5 1-7 1-9 1-4 2-6 2-8 1-5 2-7 3-9 1-6 2-8 1-7 2-9 1-8 1-9");
        // (1,2,1), (1,4,2), (1,6,3), (2,1,1), (2,3,2), (2,5,3), (3,2,2), (3,4,3), (3,6,4) and so on: z rises and falls.
        CHECKS.due("x + y = 2 * z + 1", inOrder(6, "equation 1 1 2 1"),
            "1-2 1-4 1-6 1-2 2-3 2-5 2-3 3-4 3-6 1-4 3-4 4-5 2-5 4-5 5-6 1-6 3-6 5-6");
    }

    private static void lengths() {
        CHECKS.of(0, "A progression has a length (3 to 6).");
        CHECKS.dueError(SumColouring.OUT_OF_RANGE, "numbers 9 1;progression ", "2;");
        CHECKS.dueError(SumColouring.OUT_OF_RANGE, "numbers 9 1;progression ", "0;");
        CHECKS.dueError(SumColouring.OUT_OF_RANGE, "numbers 9 1;progression ", "7;");
        for (int length = 3; length <= 6; length++) {
            StringBuilder text = new StringBuilder("numbers 40 1;progression " + length + ";");
            for (int v = 1; v < length; v++) {
                text.append("colour ").append(40 - 7 * (v - 1)).append(" 0;");
            }
            SumColouring x = Checks.loaded(text.toString());
            CHECKS.due("one number less than " + length, x.conflicts(), 0);
            x.setColour(40 - 7 * (length - 1), 0);
            CHECKS.due(length + " numbers", x.conflicts(), 1);
            CHECKS.due("the smallest one", x.conflict(0, 1), 40 - 7 * (length - 1));
            CHECKS.due("the greatest one", x.conflict(0, 2), 40);
        }
    }

    private static void sequencesFrom1ToN() {
        CHECKS.of(0, "Its solutions are all sequences of so many numbers from 1 to n in which each number is greater than the one before it by the same amount of 1 or more.");
        for (int length = 3; length <= 6; length++) {
            String rule = "progression " + length;
            dueSolutions(1, rule, 0);
            dueSolutions(length - 1, rule, 0);
            dueSolutions(length, rule, 1);
            dueSolutions(2 * length - 2, rule, length - 1);
            dueSolutions(2 * length - 1, rule, length + 1);
            for (int n = 1; n <= 40; n++) {
                int due = 0;
                for (int amount = 1; amount <= 40; amount++) {
                    due += Math.max(0, n - (length - 1) * amount);
                }
                dueSolutions(n, rule, due);
            }
        }
        CHECKS.due("not the same amount", Checks.loaded("numbers 9 1;progression 3;colour 1 0;colour 2 0;colour 4 0;colour 8 0;").conflicts(), 0);
        CHECKS.due("the greatest amount", Checks.loaded("numbers 39 1;progression 3;colour 1 0;colour 20 0;colour 39 0;").conflicts(), 1);
    }

    private static void orderOfSequences() {
        CHECKS.of(0, "They are ordered by their first number, those with the same first number by their second one.");
        CHECKS.due("of length 3", inOrder(7, "progression 3"), "1-3 1-5 1-7 2-4 2-6 3-5 3-7 4-6 5-7");
        CHECKS.due("of length 4", inOrder(8, "progression 4"), "1-4 1-7 2-5 2-8 3-6 4-7 5-8");
        CHECKS.due("of length 6", inOrder(11, "progression 6"), "1-6 1-11 2-7 3-8 4-9 5-10 6-11");
    }

    private interface Count {
        int of(SumColouring x);
    }

    private static void counts() {
        CHECKS.of(5, "Returns n.");
        dueCounts(x -> x.numberCount(), 0, 1, 40);
        CHECKS.of(6, "Returns k.");
        dueCounts(x -> x.colourCount(), 0, 1, 4);
        CHECKS.of(7, "Returns the number of rules.");
        dueCounts(x -> x.ruleCount(), 0, 0, 4);
    }

    private static void dueCounts(Count count, int empty, int small, int great) {
        SumColouring x = new SumColouring();
        CHECKS.due("a new object", count.of(x), empty);
        Checks.load(x, "numbers 1 1;");
        CHECKS.due("the smallest setup", count.of(x), small);
        Checks.load(x, "numbers 40 4;progression 3;equation 1 1 1 0;progression 3;equation 1 1 1 0;");
        CHECKS.due("the greatest setup", count.of(x), great);
        Checks.load(x, "numbers 7 3;progression 3;progression 3;x");
        CHECKS.due("after an error", count.of(x), great);
        x.undo();
        CHECKS.due("after undo", count.of(x), small);
        x.undo();
        CHECKS.due("after undo of the first load", count.of(x), empty);
    }

    private static void noSuchRule() {
        CHECKS.of(8, "- `rule`: index of a rule");
        SumColouring x = Checks.loaded("numbers 40 1;progression 3;equation 1 1 1 20;equation 1 1 1 80;");
        CHECKS.due("solutions(0)", x.solutions(0), 380);
        CHECKS.due("solutions(1)", x.solutions(1), 1200);
        CHECKS.of(8, "Returns the number of its solutions.");
        CHECKS.due("no solution", x.solutions(2), 0);
        x.setColour(1, 0);
        CHECKS.due("whatever the colours are", x.solutions(0), 380);
        CHECKS.of(8, "Throws `IndexOutOfBoundsException` if there is no such rule");
        String text = "numbers 3 1;";
        for (int rules = 0; rules <= 4; rules++) {
            SumColouring y = Checks.loaded(text);
            for (int rule : new int[] {-1, rules, rules + 1, 4, 5, Integer.MAX_VALUE, Integer.MIN_VALUE}) {
                CHECKS.dueRefused("solutions(" + rule + ") of " + rules, IndexOutOfBoundsException.class, y, () -> y.solutions(rule));
            }
            text += "progression 3;";
        }
        CHECKS.dueNoNumber("solutions(0) of a new object", () -> new SumColouring().solutions(0));
        Checks.load(x, "numbers 3 1;progression 3;");
        CHECKS.dueNoNumber("solutions(1) after a load with one rule", () -> x.solutions(1));
        x.undo();
        CHECKS.due("solutions(1) after its undo", x.solutions(1), 1200);
    }
}
