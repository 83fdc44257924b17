import java.util.NoSuchElementException;

/** The sentences of "Colourings", and promises 9 to 16 and 20 to 22, with a test of its own for each one. */
public final class ColouringEdgesTest {
    private static final Checks CHECKS = new Checks();
    private static final Class<IndexOutOfBoundsException> NO_INDEX = IndexOutOfBoundsException.class;

    /** A call with a number. */
    private interface Numbered {
        long call(SumColouring x, int number);
    }

    public static void main(String[] args) {
        colourOrNone();
        fixedNumbers();
        conflictsOfOneColour();
        orderOfConflicts();
        containedNumbers();
        weightRange();
        namesInWeights();
        divisionByZero();
        orderAndLimits();
        withoutWeight();
        totalWeight();
        allowedColours();
        readColour();
        readFixed();
        countColours();
        countConflicts();
        readConflict();
        conflictsOfNumber();
        allowedSet();
        setColour();
        setFixed();
        swapColours();
        CHECKS.finish();
    }

    /** All numbers with one colour. */
    private static String all(int n, int colour) {
        StringBuilder text = new StringBuilder();
        for (int v = 1; v <= n; v++) {
            text.append("colour ").append(v).append(' ').append(colour).append(';');
        }
        return text.toString();
    }

    private static void dueNoSuchNumber(String what, Numbered numbered) {
        SumColouring empty = new SumColouring();
        for (int number : new int[] {1, 0, -1, 40, Integer.MAX_VALUE, Integer.MIN_VALUE}) {
            CHECKS.dueRefused(what + "(" + number + ") without numbers", NO_INDEX, empty, () -> numbered.call(empty, number));
        }
        for (int n : new int[] {1, 2, 31, 32, 39, 40}) {
            SumColouring x = Checks.loaded("numbers " + n + " 2;progression 3;colour " + n + " 1;");
            for (int number : new int[] {0, -1, -n, n + 1, n + 64, n - 64, n + 256, Integer.MAX_VALUE, Integer.MIN_VALUE}) {
                CHECKS.dueRefused(what + "(" + number + ") of " + n, NO_INDEX, x, () -> numbered.call(x, number));
            }
        }
    }

    private static void colourOrNone() {
        CHECKS.of(0, "Each number has a colour or none.");
        SumColouring x = Checks.loaded("numbers 40 4;");
        for (int v = 1; v <= 40; v++) {
            CHECKS.due("at first", x.colour(v), -1);
            for (int c = 0; c < 4; c++) {
                x.setColour(v, c);
                CHECKS.due("with " + c, x.colour(v), c);
                CHECKS.due("numbers with " + c, x.count(c), 1);
                CHECKS.due("numbers with none", x.count(-1), 39);
            }
            x.setColour(v, -1);
            CHECKS.due("with none", x.colour(v), -1);
        }
    }

    private static void fixedNumbers() {
        CHECKS.of(0, "A number with a colour can be fixed.");
        SumColouring x = Checks.loaded("numbers 40 4;colour 1 0;colour 40 3;");
        x.setFixed(1, true);
        x.setFixed(40, true);
        CHECKS.due("1 and 40 are fixed", Checks.picture(x), "A" + ".".repeat(38) + "D");
        for (int v = 2; v < 40; v++) {
            int number = v;
            CHECKS.dueRefused("setFixed(" + v + ", true)", IllegalStateException.class, x, () -> Checks.asLong(x.setFixed(number, true)));
        }
        x.setFixed(40, false);
        x.setColour(40, -1);
        CHECKS.dueNoState("setFixed of 40 when its colour is lost", () -> Checks.asLong(x.setFixed(40, true)));
        x.setColour(40, 2);
        CHECKS.due("40 with a colour again is not fixed", Checks.asLong(x.isFixed(40)), 0);
    }

    private static void conflictsOfOneColour() {
        CHECKS.of(0, "A conflict is a solution of a rule all of whose numbers have the same colour.");
        for (int i = 0; i < 27; i++) {
            int[] c = {i / 9 - 1, i / 3 % 3 - 1, i % 3 - 1};
            boolean one = c[0] == c[1] && c[1] == c[2] && c[0] >= 0;
            SumColouring x = Checks.loaded("numbers 3 2;progression 3;equation 1 1 1 0 distinct;");
            for (int v = 1; v <= 3; v++) {
                x.setColour(v, c[v - 1]);
            }
            CHECKS.due("conflicts of " + Checks.picture(x), x.conflicts(), one ? 3 : 0);
        }
        SumColouring six = Checks.loaded("numbers 40 2;progression 6;colour 5 1;colour 12 1;colour 19 1 fixed;colour 26 1;colour 33 1;colour 40 1 fixed;");
        CHECKS.due("six numbers, fixed or not", six.conflicts(), 1);
        for (int v : new int[] {5, 12, 26, 33}) {
            for (int c = -1; c <= 0; c++) {
                six.setColour(v, c);
                CHECKS.due(v + " with " + c, six.conflicts(), 0);
                six.setColour(v, 1);
            }
        }
        CHECKS.due("one number alone", Checks.loaded("numbers 1 1;equation 1 1 1 1;colour 1 0;").conflicts(), 1);
        CHECKS.due("one number without a colour", Checks.loaded("numbers 1 1;equation 1 1 1 1;").conflicts(), 0);
    }

    private static String allConflicts(SumColouring x) {
        StringBuilder line = new StringBuilder();
        for (int i = 0; i < x.conflicts(); i++) {
            line.append(i > 0 ? " " : "").append(x.conflict(i, 0)).append(':').append(x.conflict(i, 1));
            line.append('-').append(x.conflict(i, 2)).append((char) ('a' + x.conflict(i, 3)));
        }
        return line.toString();
    }

    private static void orderOfConflicts() {
        CHECKS.of(0, "Conflicts are ordered by the indexes of their rules, those of the same rule by the order of the solutions.");
        String colours = "colour 1 1;colour 2 1;colour 3 1;colour 4 0;colour 5 0;colour 6 0;";
        CHECKS.due("greater colours may come first", allConflicts(Checks.loaded("numbers 9 2;progression 3;equation 1 1 1 0;" + colours)),
            "0:1-3b 0:4-6a 1:1-2b 1:1-3b 1:1-3b");
        CHECKS.due("with the rules exchanged", allConflicts(Checks.loaded("numbers 9 2;equation 1 1 1 0;progression 3;" + colours)),
            "0:1-2b 0:1-3b 0:1-3b 1:1-3b 1:4-6a");
        CHECKS.due("the same rule four times", allConflicts(Checks.loaded("numbers 9 2;" + "progression 3;".repeat(4) + colours)),
            "0:1-3b 0:4-6a 1:1-3b 1:4-6a 2:1-3b 2:4-6a 3:1-3b 3:4-6a");
    }

    private static void containedNumbers() {
        CHECKS.of(0, "A conflict contains a number if it is one of the numbers of the solution.");
        SumColouring x = Checks.loaded("numbers 7 1;progression 3;colour 1 0;colour 4 0;colour 7 0;colour 5 0;");
        int[] due = {1, 0, 0, 1, 0, 0, 1};
        for (int v = 1; v <= 7; v++) {
            CHECKS.due("1, 4, 7 contains " + v, x.conflictsOf(v), due[v - 1]);
        }
        SumColouring twice = Checks.loaded("numbers 2 1;equation 1 1 1 0;" + all(2, 0));
        CHECKS.due("1 + 1 = 2 contains 1 once", twice.conflictsOf(1), 1);
        CHECKS.due("1 + 1 = 2 contains 2", twice.conflictsOf(2), 1);
        SumColouring thrice = Checks.loaded("numbers 9 1;equation 1 1 1 9;colour 9 0;");
        CHECKS.due("9 + 9 = 9 + 9 contains 9 once", thrice.conflictsOf(9), 1);
        CHECKS.due("and not 8", thrice.conflictsOf(8), 0);
    }

    /** The weight of the one conflict, of the number 1 with colour 0 in rule 0. */
    private static void dueWeight(String sum, int want) {
        SumColouring x = Checks.loaded("numbers 1 1;equation 1 1 1 1;colour 1 0;weight " + sum + ";");
        CHECKS.due("weight " + sum, x.conflict(0, 4), want);
        CHECKS.due("total weight " + sum, x.totalWeight(), want);
    }

    private static void weightRange() {
        CHECKS.of(0, "The weight of a conflict is the value of the weight expression, limited to the range 0 to 999.");
        int[] values = {0, 1, 998, 999, 1000, 1001, 9999};
        for (int value : values) {
            dueWeight("" + value, Math.min(value, 999));
            dueWeight("0-" + value, 0);
        }
        // Each weight is limited, and not their sum.
        SumColouring x = Checks.loaded("numbers 3 1;progression 3;equation 1 1 1 3;weight 2000*rule-500;" + all(3, 0));
        CHECKS.due("the lower bound", x.conflict(0, 4), 0);
        CHECKS.due("the upper bound", x.conflict(1, 4), 999);
        CHECKS.due("their sum", x.totalWeight(), 6 * 999);
    }

    private static void namesInWeights() {
        CHECKS.of(0, "In the expression, rule is the index of the rule, largest is the greatest number of the solution, and colour is the colour.");
        for (int v = 1; v <= 40; v++) {
            for (int c = 0; c < 4; c++) {
                int rule = (v + c) % 4;
                String text = "numbers 40 4;" + "progression 6;".repeat(rule) + "equation 1 1 1 " + v + ";colour " + v + " " + c + ";weight ";
                CHECKS.due("rule", Checks.loaded(text + "rule;").totalWeight(), rule);
                CHECKS.due("largest", Checks.loaded(text + "largest;").totalWeight(), v);
                CHECKS.due("colour", Checks.loaded(text + "colour;").totalWeight(), c);
                CHECKS.due("all three", Checks.loaded(text + "(rule*50+largest)*4+colour;").totalWeight(), (rule * 50 + v) * 4 + c);
            }
        }
        // 1 + 5 = 2 + 4 and 5 + 1 = 2 + 4: the greatest number is x or y; 1 + 1 = 2: it is z.
        SumColouring x = Checks.loaded("numbers 9 1;equation 1 1 1 4;weight largest;colour 1 0;colour 2 0;colour 5 0;");
        CHECKS.due("largest is y", x.conflict(0, 4), 5);
        CHECKS.due("largest is x", x.conflict(1, 4), 5);
        CHECKS.due("largest is z", Checks.loaded("numbers 2 1;equation 1 1 1 0;weight largest;" + all(2, 0)).conflict(0, 4), 2);
    }

    private static void divisionByZero() {
        CHECKS.of(0, "Division by 0 gives 0.");
        dueWeight("5/0", 0);
        dueWeight("0/0", 0);
        dueWeight("8+5/0", 8);
        dueWeight("8-5/0", 8);
        dueWeight("8+5/0*3", 8);
        dueWeight("8+5/0/0", 8);
        dueWeight("8+7/(1-largest)", 8);
        dueWeight("8+(0-7)/rule", 8);
        dueWeight("8+7/colour", 8);
        dueWeight("8+9999*9999/(5-5)", 8);
        dueWeight("8+7/(1/2)", 8);
        dueWeight("8+0/5", 8);
    }

    private static void orderAndLimits() {
        CHECKS.of(0, "The operations of one sum or term are made from the left to the right; the result of each one is limited to the range -1000000 to 1000000.");
        dueWeight("20-3-4", 13);
        dueWeight("20-(3-4)", 21);
        dueWeight("2-3+4", 3);
        dueWeight("100/7/2", 7);
        dueWeight("7/2*2", 6);
        dueWeight("7*2/4", 3);
        dueWeight("2+3*4", 14);
        dueWeight("2*3+4", 10);
        dueWeight("20-6/2-3*4", 5);
        // 999900 is 9999 * 100: what is left tells where the sum was limited.
        dueWeight("1000*1000-9999*100", 100);
        dueWeight("1000*1000-1-9999*100", 99);
        dueWeight("1000*1000+1-9999*100", 100);
        dueWeight("1000*1000+9999-9999*100", 100);
        dueWeight("9999*100+101-9999*100", 100);
        dueWeight("9999*9999-9999*100", 100);
        dueWeight("9999*9999*9999*9999-9999*100", 100);
        dueWeight("9999*9999/9999*3", 300);
        dueWeight("0-1000*1000+9999*100+101", 1);
        dueWeight("0-1000*1000+1+9999*100+100", 1);
        dueWeight("0-1000*1000-1+9999*100+101", 1);
        dueWeight("0-9999*100-101+9999*100+101", 1);
        dueWeight("0-9999*100-9999*100+9999*100+101", 1);
        dueWeight("(0-9999)*9999+9999*100+101", 1);
        dueWeight("(0-9999)*9999*9999+9999*100+101", 1);
        dueWeight("(0-9999)*9999*9999*(0-1)-9999*100", 100);
        dueWeight("9999*(1000*1000-1)-9999*100", 100);
        dueWeight("(1000*1000+1000*1000)/2000", 500);
        dueWeight("(1000*1000)/(0-1)+9999*100+101", 1);
    }

    private static void withoutWeight() {
        CHECKS.of(0, "Without a weight statement the weight is 1.");
        SumColouring x = Checks.loaded("numbers 9 4;progression 3;equation 1 1 1 0;" + all(9, 3));
        CHECKS.due("all conflicts", x.totalWeight(), 16 + 36);
        for (int i = 0; i < x.conflicts(); i++) {
            CHECKS.due("the conflict " + i, x.conflict(i, 4), 1);
        }
        Checks.load(x, "numbers 3 1;progression 3;weight 5;" + all(3, 0));
        Checks.load(x, "numbers 3 1;progression 3;" + all(3, 0));
        CHECKS.due("after a text with a weight", x.totalWeight(), 1);
    }

    private static void totalWeight() {
        CHECKS.of(0, "The total weight is the sum of the weights of all conflicts.");
        SumColouring x = Checks.loaded("numbers 40 1;" + "equation 1 1 1 20;".repeat(4) + "weight 999;" + all(40, 0));
        CHECKS.due("the greatest total weight of 40 numbers", x.totalWeight(), 4 * 1200 * 999);
        CHECKS.due("weights of 0", Checks.loaded("numbers 3 1;progression 3;weight 0;" + all(3, 0)).totalWeight(), 0);
        CHECKS.of(13, "Returns the total weight.");
        CHECKS.due("of a new object", new SumColouring().totalWeight(), 0);
        CHECKS.due("without conflicts", Checks.loaded("numbers 3 2;progression 3;colour 1 0;colour 2 0;colour 3 1;").totalWeight(), 0);
        CHECKS.due("without rules", Checks.loaded("numbers 3 1;weight 7;" + all(3, 0)).totalWeight(), 0);
        SumColouring y = Checks.loaded("numbers 5 2;progression 3;weight largest*10+colour;" + all(3, 0) + "colour 4 1;colour 5 1;");
        CHECKS.due("one conflict", y.totalWeight(), 30);
        y.setColour(3, 1);
        CHECKS.due("another one", y.totalWeight(), 51);
        y.setColour(1, 1);
        CHECKS.due("two conflicts", y.totalWeight(), 51 + 51);
    }

    private static void allowedColours() {
        CHECKS.of(0, "A colour is allowed for a number if no conflict would contain the number if it had this colour (and all other numbers were as they are).");
        SumColouring x = Checks.loaded("numbers 5 2;equation 1 1 1 0;colour 1 0;colour 2 1;colour 3 1;colour 4 0;");
        int[] due = {1, 2, 2, 1, 0};
        for (int v = 1; v <= 5; v++) {
            CHECKS.due("allowed(" + v + ")", x.allowed(v), due[v - 1]);
        }
        CHECKS.due("the number alone is a solution", Checks.loaded("numbers 1 4;equation 1 1 1 1;").allowed(1), 0);
        CHECKS.due("the number twice and one without a colour", Checks.loaded("numbers 2 4;equation 1 1 1 0;").allowed(1), 15);
        SumColouring twice = Checks.loaded("numbers 2 4;equation 1 1 1 0;colour 2 3;");
        CHECKS.due("the number twice and one of colour 3", twice.allowed(1), 7);
        // With as many solutions as there can be: 40 + 5 = 24 + 21 is one of the last rule only.
        String many = "numbers 40 2;" + "equation 1 1 1 20;".repeat(3) + "equation 1 1 1 21;";
        SumColouring most = Checks.loaded(many + "colour 5 0;colour 24 0;");
        CHECKS.due("40 beside 5 and 24", most.allowed(40), 2);
        CHECKS.due("40 beside 5 and 23", Checks.loaded(many + "colour 5 0;colour 23 0;").allowed(40), 3);
        // The conflict 1, 2, 3 does not contain 9; the own colour of a number does not matter.
        SumColouring other = Checks.loaded("numbers 9 2;progression 3;colour 1 0;colour 2 0;colour 3 0;colour 9 0 fixed;");
        CHECKS.due("a conflict of other numbers", other.allowed(9), 3);
        CHECKS.due("a number in a conflict", other.allowed(3), 2);
        CHECKS.due("5 would make 1, 5, 9", other.allowed(5), 2);
    }

    private static void readColour() {
        CHECKS.of(9, "- `number`: 1 to n");
        SumColouring x = Checks.loaded("numbers 40 4;colour 1 3;colour 40 0 fixed;");
        CHECKS.due("the first number", x.colour(1), 3);
        CHECKS.due("the last number", x.colour(40), 0);
        CHECKS.of(9, "Returns its colour; -1 if it has none.");
        for (int v = 2; v < 40; v++) {
            CHECKS.due("the number " + v, x.colour(v), -1);
        }
        CHECKS.of(9, "Throws `IndexOutOfBoundsException` if there is no such number");
        dueNoSuchNumber("colour", (y, number) -> y.colour(number));
    }

    private static void readFixed() {
        CHECKS.of(10, "- `number`: 1 to n");
        SumColouring x = Checks.loaded("numbers 40 4;colour 1 3 fixed;colour 2 3;colour 39 0;colour 40 0 fixed;");
        CHECKS.due("the first number", Checks.asLong(x.isFixed(1)), 1);
        CHECKS.due("the last number", Checks.asLong(x.isFixed(40)), 1);
        CHECKS.of(10, "Returns whether it is fixed.");
        for (int v = 2; v < 40; v++) {
            CHECKS.due("the number " + v, Checks.asLong(x.isFixed(v)), 0);
        }
        CHECKS.of(10, "Throws `IndexOutOfBoundsException` if there is no such number");
        dueNoSuchNumber("isFixed", (y, number) -> Checks.asLong(y.isFixed(number)));
    }

    private static void countColours() {
        CHECKS.of(11, "- `colour`: a colour, or -1");
        SumColouring x = Checks.loaded("numbers 40 4;colour 1 0;colour 40 0 fixed;colour 20 3 fixed;");
        int[] due = {37, 2, 0, 0, 1};
        for (int c = -1; c < 4; c++) {
            CHECKS.due("count(" + c + ")", x.count(c), due[c + 1]);
        }
        CHECKS.of(11, "Returns how many numbers have this colour (with -1, how many have none).");
        CHECKS.due("all of them none", Checks.loaded("numbers 40 1;").count(-1), 40);
        CHECKS.due("none of them a colour", Checks.loaded("numbers 40 1;").count(0), 0);
        CHECKS.due("all of them one colour", Checks.loaded("numbers 40 1;" + all(40, 0)).count(0), 40);
        CHECKS.due("none of them none", Checks.loaded("numbers 40 1;" + all(40, 0)).count(-1), 0);
        CHECKS.due("count(-1) of a new object", new SumColouring().count(-1), 0);
        CHECKS.of(11, "Throws `IndexOutOfBoundsException` if there is no such colour");
        SumColouring empty = new SumColouring();
        for (int c : new int[] {0, 1, 3, 4, -2, Integer.MAX_VALUE, Integer.MIN_VALUE}) {
            CHECKS.dueRefused("count(" + c + ") of a new object", NO_INDEX, empty, () -> empty.count(c));
        }
        for (int k = 1; k <= 4; k++) {
            SumColouring y = Checks.loaded("numbers 9 " + k + ";colour 9 0;");
            for (int c : new int[] {k, k + 1, 4, 5, -2, -3, Integer.MAX_VALUE, Integer.MIN_VALUE}) {
                CHECKS.dueRefused("count(" + c + ") of " + k, NO_INDEX, y, () -> y.count(c));
            }
        }
    }

    private static void countConflicts() {
        CHECKS.of(12, "Returns the number of conflicts.");
        CHECKS.due("of a new object", new SumColouring().conflicts(), 0);
        CHECKS.due("without rules", Checks.loaded("numbers 40 1;" + all(40, 0)).conflicts(), 0);
        CHECKS.due("without colours", Checks.loaded("numbers 40 1;progression 3;").conflicts(), 0);
        CHECKS.due("all solutions", Checks.loaded("numbers 40 1;progression 3;equation 1 1 1 0;" + all(40, 0)).conflicts(), 380 + 780);
        CHECKS.due("all of four rules", Checks.loaded("numbers 40 1;" + "equation 1 1 1 20;".repeat(4) + all(40, 0)).conflicts(), 4800);
        CHECKS.due("conflicts of weight 0", Checks.loaded("numbers 3 1;progression 3;weight 0;" + all(3, 0)).conflicts(), 1);
    }

    private static void readConflict() {
        CHECKS.of(14, "- `index`: index of a conflict in their order, from 0");
        SumColouring x = Checks.loaded("numbers 40 1;" + "equation 1 1 1 20;".repeat(4) + "weight rule*100+largest;" + all(40, 0));
        CHECKS.due("the first one is 1 + 20 = 1 + 20", x.conflict(0, 2), 20);
        CHECKS.due("the last one is 40 + 20 = 40 + 20", x.conflict(4799, 1), 20);
        CHECKS.of(14, "- `what`: 0 its rule, 1 its smallest number, 2 its greatest number, 3 its colour, 4 its weight");
        int[][] due = {{0, 1, 20, 0, 20}, {3, 20, 40, 0, 340}};
        for (int what = 0; what <= 4; what++) {
            CHECKS.due("conflict(0, " + what + ")", x.conflict(0, what), due[0][what]);
            CHECKS.due("conflict(4799, " + what + ")", x.conflict(4799, what), due[1][what]);
        }
        CHECKS.of(14, "Throws `NoSuchElementException` if there is no such conflict");
        SumColouring empty = new SumColouring();
        SumColouring one = Checks.loaded("numbers 3 2;progression 3;" + all(3, 1));
        SumColouring none = Checks.loaded("numbers 3 2;progression 3;colour 1 0;");
        for (int what : new int[] {0, 4, 5, -1, Integer.MAX_VALUE, Integer.MIN_VALUE}) {
            for (int index : new int[] {-1, 4800, 4801, Integer.MAX_VALUE, Integer.MIN_VALUE}) {
                CHECKS.dueThrow("conflict(" + index + ", " + what + ")", NoSuchElementException.class, () -> x.conflict(index, what));
            }
            for (int index : new int[] {1, 2, -1, Integer.MAX_VALUE, Integer.MIN_VALUE}) {
                CHECKS.dueRefused("conflict(" + index + ", " + what + ") of one", NoSuchElementException.class, one, () -> one.conflict(index, what));
            }
            CHECKS.dueRefused("conflict(0, " + what + ") of none", NoSuchElementException.class, none, () -> none.conflict(0, what));
            CHECKS.dueRefused("conflict(0, " + what + ") of a new object", NoSuchElementException.class, empty, () -> empty.conflict(0, what));
        }
        CHECKS.of(14, "Throws `IllegalArgumentException` if what is not 0 to 4");
        for (int what : new int[] {5, 6, -1, Integer.MAX_VALUE, Integer.MIN_VALUE}) {
            CHECKS.dueNoArgument("conflict(0, " + what + ")", () -> x.conflict(0, what));
            CHECKS.dueNoArgument("conflict(4799, " + what + ")", () -> x.conflict(4799, what));
            CHECKS.dueRefused("conflict(0, " + what + ") of one", IllegalArgumentException.class, one, () -> one.conflict(0, what));
        }
    }

    private static void conflictsOfNumber() {
        CHECKS.of(15, "- `number`: 1 to n");
        SumColouring x = Checks.loaded("numbers 40 1;progression 3;" + all(40, 0));
        CHECKS.due("the first number", x.conflictsOf(1), 19);
        CHECKS.due("the last number", x.conflictsOf(40), 19);
        CHECKS.of(15, "Returns the number of conflicts that contain it.");
        CHECKS.due("a number in the middle", x.conflictsOf(20), 10 + 9 + 19);
        x.setColour(20, -1);
        CHECKS.due("a number without a colour", x.conflictsOf(20), 0);
        // As the first, the last and the middle one of three, of which 20 is none.
        CHECKS.due("the number below it", x.conflictsOf(19), 9 + 9 + 17);
        CHECKS.due("the number above it", x.conflictsOf(21), 9 + 9 + 18);
        CHECKS.of(15, "Throws `IndexOutOfBoundsException` if there is no such number");
        dueNoSuchNumber("conflictsOf", (y, number) -> y.conflictsOf(number));
    }

    private static void allowedSet() {
        CHECKS.of(16, "- `number`: 1 to n");
        SumColouring x = Checks.loaded("numbers 40 4;progression 3;colour 2 1;colour 3 1;colour 38 2;colour 39 2;");
        CHECKS.due("the first number", x.allowed(1), 13);
        CHECKS.due("the last number", x.allowed(40), 11);
        CHECKS.of(16, "Returns the set of the colours that are allowed for it: bit c stands for colour c.");
        for (int k = 1; k <= 4; k++) {
            CHECKS.due("all of " + k, Checks.loaded("numbers 1 " + k + ";").allowed(1), (1 << k) - 1);
            CHECKS.due("none of " + k, Checks.loaded("numbers 1 " + k + ";equation 1 1 1 1;").allowed(1), 0);
            for (int c = 0; c < k; c++) {
                SumColouring y = Checks.loaded("numbers 3 " + k + ";progression 3;colour 1 " + c + ";colour 3 " + c + ";");
                CHECKS.due("all of " + k + " but " + c, y.allowed(2), (1 << k) - 1 - (1 << c));
            }
        }
        CHECKS.of(16, "Throws `IndexOutOfBoundsException` if there is no such number");
        dueNoSuchNumber("allowed", (y, number) -> y.allowed(number));
    }

    private static void setColour() {
        CHECKS.of(20, "Gives a number a colour, or none.");
        SumColouring x = Checks.loaded("numbers 3 2;colour 2 1;");
        x.setColour(1, 0);
        x.setColour(2, -1);
        x.setColour(3, 1);
        CHECKS.due("picture", Checks.picture(x), "a.b");
        CHECKS.of(20, "- `number`: 1 to n");
        SumColouring forty = Checks.loaded("numbers 40 4;");
        forty.setColour(1, 3);
        forty.setColour(40, 3);
        CHECKS.due("the first and the last one", Checks.picture(forty), "d" + ".".repeat(38) + "d");
        CHECKS.of(20, "- `colour`: a colour, or -1");
        int before = -1;
        for (int c : new int[] {0, 3, -1, 3, 0, -1}) {
            CHECKS.due("setColour(20, " + c + ")", forty.setColour(20, c), before);
            CHECKS.due("its colour", forty.colour(20), c);
            before = c;
        }
        CHECKS.of(20, "Returns its previous colour; -1 if it had none.");
        CHECKS.due("none before", x.setColour(2, 0), -1);
        CHECKS.due("0 before", x.setColour(2, 1), 0);
        CHECKS.due("the same before", x.setColour(2, 1), 1);
        CHECKS.due("1 before", x.setColour(2, -1), 1);
        CHECKS.due("none before and after", x.setColour(2, -1), -1);
        CHECKS.of(20, "Throws `IndexOutOfBoundsException` if there is no such number or colour");
        for (int c : new int[] {-1, 0, 5}) {
            dueNoSuchNumber("setColour", (y, number) -> y.setColour(number, c));
        }
        for (int c : new int[] {2, 3, -2, 34, Integer.MAX_VALUE, Integer.MIN_VALUE}) {
            CHECKS.dueRefused("setColour(1, " + c + ")", NO_INDEX, x, () -> x.setColour(1, c));
            CHECKS.dueRefused("setColour(4, " + c + ")", NO_INDEX, x, () -> x.setColour(4, c));
        }
        CHECKS.dueRefused("setColour(1, 4)", NO_INDEX, forty, () -> forty.setColour(1, 4));
        CHECKS.of(20, "Throws `IllegalStateException` if the number is fixed");
        x.setFixed(3, true);
        for (int c = -1; c < 2; c++) {
            int colour = c;
            CHECKS.dueRefused("setColour(3, " + c + ") of a fixed number", IllegalStateException.class, x, () -> x.setColour(3, colour));
        }
        CHECKS.dueRefused("setColour(3, 2) of a fixed number", NO_INDEX, x, () -> x.setColour(3, 2));
        CHECKS.dueRefused("setColour(3, -2) of a fixed number", NO_INDEX, x, () -> x.setColour(3, -2));
        x.setFixed(3, false);
        CHECKS.due("setColour of a number no longer fixed", x.setColour(3, 0), 1);
    }

    private static void setFixed() {
        CHECKS.of(21, "Makes a number fixed, or not fixed.");
        SumColouring x = Checks.loaded("numbers 40 2;colour 1 0;colour 2 1 fixed;colour 40 1;");
        x.setFixed(1, true);
        x.setFixed(2, false);
        CHECKS.due("picture", Checks.picture(x).substring(0, 3), "Ab.");
        CHECKS.of(21, "- `number`: 1 to n");
        x.setFixed(40, true);
        CHECKS.due("the last one", Checks.asLong(x.isFixed(40)), 1);
        CHECKS.of(21, "- `fixed`: whether it is fixed then");
        boolean before = true;
        for (boolean fixed : new boolean[] {true, false, false, true}) {
            CHECKS.due("setFixed(40, " + fixed + ")", Checks.asLong(x.setFixed(40, fixed)), Checks.asLong(before));
            CHECKS.due("isFixed(40)", Checks.asLong(x.isFixed(40)), Checks.asLong(fixed));
            CHECKS.due("its colour", x.colour(40), 1);
            before = fixed;
        }
        CHECKS.of(21, "Returns whether it was fixed.");
        CHECKS.due("true to true", Checks.asLong(x.setFixed(1, true)), 1);
        CHECKS.due("true to false", Checks.asLong(x.setFixed(1, false)), 1);
        CHECKS.due("false to false", Checks.asLong(x.setFixed(1, false)), 0);
        CHECKS.due("false to true", Checks.asLong(x.setFixed(1, true)), 0);
        CHECKS.due("false to false without a colour", Checks.asLong(x.setFixed(3, false)), 0);
        CHECKS.of(21, "Throws `IndexOutOfBoundsException` if there is no such number");
        dueNoSuchNumber("setFixed true", (y, number) -> Checks.asLong(y.setFixed(number, true)));
        dueNoSuchNumber("setFixed false", (y, number) -> Checks.asLong(y.setFixed(number, false)));
        CHECKS.of(21, "Throws `IllegalStateException` if fixed is true and the number has no colour");
        CHECKS.dueRefused("setFixed(3, true)", IllegalStateException.class, x, () -> Checks.asLong(x.setFixed(3, true)));
        x.setColour(3, 0);
        CHECKS.due("setFixed(3, true) with a colour", Checks.asLong(x.setFixed(3, true)), 0);
    }

    private static void swapColours() {
        CHECKS.of(22, "Exchanges two colours: all numbers that have one of them get the other one (also fixed numbers).");
        SumColouring x = Checks.loaded("numbers 7 4;colour 1 0;colour 2 1 fixed;colour 3 3;colour 4 0 fixed;colour 6 2;colour 7 3 fixed;");
        CHECKS.due("0 and 3", x.swapColours(0, 3), 4);
        CHECKS.due("picture", Checks.picture(x), "dBaD.cA");
        CHECKS.of(22, "- `one`: a colour");
        CHECKS.due("3 and 0", x.swapColours(3, 0), 4);
        CHECKS.due("picture", Checks.picture(x), "aBdA.cD");
        CHECKS.of(22, "- `other`: a colour");
        CHECKS.due("0 and 3 again", x.swapColours(0, 3), 4);
        CHECKS.of(22, "Returns the number of numbers that get another colour.");
        CHECKS.due("1 and 2", x.swapColours(1, 2), 2);
        CHECKS.due("picture", Checks.picture(x), "dCaD.bA");
        for (int c = 0; c < 4; c++) {
            CHECKS.due(c + " and itself", x.swapColours(c, c), 0);
        }
        CHECKS.due("picture", Checks.picture(x), "dCaD.bA");
        SumColouring y = Checks.loaded("numbers 40 3;" + all(40, 1));
        CHECKS.due("all numbers, to a colour without numbers", y.swapColours(0, 1), 40);
        CHECKS.due("two colours without numbers", y.swapColours(1, 2), 0);
        CHECKS.due("numbers with 0", y.count(0), 40);
        CHECKS.of(22, "Throws `IndexOutOfBoundsException` if there is no such colour");
        SumColouring empty = new SumColouring();
        CHECKS.dueRefused("swapColours(0, 0) of a new object", NO_INDEX, empty, () -> empty.swapColours(0, 0));
        for (int c : new int[] {3, 4, -1, -2, Integer.MAX_VALUE, Integer.MIN_VALUE}) {
            CHECKS.dueRefused("swapColours(0, " + c + ")", NO_INDEX, y, () -> y.swapColours(0, c));
            CHECKS.dueRefused("swapColours(" + c + ", 0)", NO_INDEX, y, () -> y.swapColours(c, 0));
            CHECKS.dueRefused("swapColours(" + c + ", " + c + ")", NO_INDEX, y, () -> y.swapColours(c, c));
        }
    }
}
