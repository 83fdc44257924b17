/** Promises 8 and 14: the solutions of the rules, their order, and the weights of conflicts. */
public final class RulesTest {
    private static final Checks CHECKS = new Checks();

    public static void main(String[] args) {
        numbersOfSolutions();
        wrongRules();
        ordersOfSolutions();
        weights();
        CHECKS.finish();
    }

    private static void dueSolutions(String rule, int n, int want) {
        SumColouring x = Checks.loaded("numbers " + n + " 1;" + rule + ";");
        CHECKS.due("solutions of " + rule + " up to " + n, x.solutions(0), want);
    }

    private static void numbersOfSolutions() {
        dueSolutions("equation 1 1 1 0", 5, 10);
        dueSolutions("equation 1 1 1 0 distinct", 5, 8);
        dueSolutions("equation 1 1 1 0", 1, 0);
        dueSolutions("equation 1 1 1 1", 1, 1);
        dueSolutions("equation 1 1 1 1 distinct", 1, 0);
        dueSolutions("equation 1 1 1 0", 40, 780);
        dueSolutions("equation 1 1 2 0", 9, 41);
        dueSolutions("equation 1 1 2 0 distinct", 9, 32);
        dueSolutions("equation 1 1 1 20", 40, 1200);
        dueSolutions("equation 1 1 1 -20", 40, 190);
        dueSolutions("equation 1 1 1 -39", 40, 0);
        dueSolutions("equation 1 1 1 -38", 40, 1);
        dueSolutions("equation 1 1 1 79", 40, 1);
        dueSolutions("equation 9 9 9 99", 40, 1110);
        dueSolutions("equation 9 9 9 98", 40, 0);
        dueSolutions("equation 2 3 4 5", 3, 2);
        dueSolutions("progression 3", 6, 6);
        dueSolutions("progression 3", 2, 0);
        dueSolutions("progression 3", 40, 380);
        dueSolutions("progression 4", 40, 247);
        dueSolutions("progression 5", 40, 180);
        dueSolutions("progression 6", 40, 140);
        dueSolutions("progression 6", 6, 1);
    }

    private static void wrongRules() {
        SumColouring x = Checks.loaded("numbers 6 2;progression 3;equation 1 1 1 1;");
        CHECKS.due("solutions(0)", x.solutions(0), 6);
        CHECKS.due("solutions(1)", x.solutions(1), 21);
        CHECKS.dueNoNumber("solutions(2)", () -> x.solutions(2));
        CHECKS.dueNoNumber("solutions(-1)", () -> x.solutions(-1));
        CHECKS.dueNoNumber("solutions(max)", () -> x.solutions(Integer.MAX_VALUE));
        CHECKS.dueNoNumber("solutions(min)", () -> x.solutions(Integer.MIN_VALUE));
        CHECKS.dueNoNumber("solutions(0) of a new object", () -> new SumColouring().solutions(0));
    }

    private static String conflictsOf(SumColouring x) {
        StringBuilder line = new StringBuilder();
        for (int i = 0; i < x.conflicts(); i++) {
            line.append(x.conflict(i, 0)).append(':').append(x.conflict(i, 1)).append('-').append(x.conflict(i, 2)).append(' ');
        }
        return line.toString();
    }

    private static void ordersOfSolutions() {
        SumColouring x = Checks.loaded("numbers 5 1;progression 3;equation 1 1 1 0;equation 2 1 1 1;"
            + "colour 1 0;colour 2 0;colour 3 0;colour 4 0;colour 5 0;");
        // 2 * x + y = z + 1: (1,1,2) (1,2,3) (1,3,4) (1,4,5) (2,1,4) (2,2,5) - and no more.
        CHECKS.due("order", conflictsOf(x), "0:1-3 0:1-5 0:2-4 0:3-5 "
            + "1:1-2 1:1-3 1:1-4 1:1-5 1:1-3 1:2-4 1:2-5 1:1-4 1:2-5 1:1-5 "
            + "2:1-2 2:1-3 2:1-4 2:1-5 2:1-4 2:2-5 ");
    }

    /** The weight of the one conflict of rule 1, 1 to 3 with colour 1. */
    private static void dueWeight(String sum, int want) {
        SumColouring x = Checks.loaded("numbers 3 2;progression 4;progression 3;weight " + sum + ";colour 1 1;colour 2 1;colour 3 1;");
        CHECKS.due("conflicts with weight " + sum, x.conflicts(), 1);
        CHECKS.due("weight " + sum, x.conflict(0, 4), want);
        CHECKS.due("total weight " + sum, x.totalWeight(), want);
    }

    private static void weights() {
        dueWeight("7", 7);
        dueWeight("999", 999);
        dueWeight("1000", 999);
        dueWeight("0-1", 0);
        dueWeight("rule", 1);
        dueWeight("largest", 3);
        dueWeight("colour", 1);
        dueWeight("rule*100+largest*10+colour", 131);
        dueWeight("2+3*4", 14);
        dueWeight("(2+3)*4", 20);
        dueWeight("20-3-4", 13);
        dueWeight("20-(3-4)", 21);
        dueWeight("100/7/2", 7);
        dueWeight("100/(7/2)", 33);
        dueWeight("7/2*2", 6);
        dueWeight("100+(0-7)/2", 97);
        dueWeight("5/0", 0);
        dueWeight("8+5/(3-largest)", 8);
        dueWeight("(0-9)/(rule-1)+2", 2);
        dueWeight("9999*9999/1000", 999);
        dueWeight("9999*9999-9999*100", 100);
        dueWeight("9999*9999/9999*3", 300);
        dueWeight("(0-9999)*9999+9999*100+500", 400);
        dueWeight("9999*100+9999-9999*100", 100);
        dueWeight("0-9999*100-9999*100+9999*100", 0);
        dueWeight("0-9999*100-9999*100+9999*100+9999*9999", 999);
        dueWeight("(0-9999*100-9999*100+9999*9999)+5", 5);
        dueWeight("1+(2*(3+(4*(5+6))))", 95);
        dueWeight("1+(2*1+(2*1+(2*1+(2*1+2*9))))", 1 + 2 + 2 + 2 + 2 + 18);
    }
}
