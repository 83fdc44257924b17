/** Promises 17, 18 and 23: canExtend, longest and extend. */
public final class SearchTest {
    private static final Checks CHECKS = new Checks();
    private static final String SCHUR = "numbers 5 2;equation 1 1 1 0;";

    public static void main(String[] args) {
        trials();
        presentColours();
        freshColours();
        longestColourings();
        extending();
        wrongCalls();
        CHECKS.finish();
    }

    private static void trials() {
        SumColouring x = Checks.loaded(SCHUR);
        // 1a; 2a no, 2b; 3a, 4a no, 4b no; 3b, 4a
        int[] wanted = {1, 3, 4, 8, -1};
        for (int to = 1; to <= 5; to++) {
            CHECKS.due("canExtend(" + to + ", 3000)", x.canExtend(to, 3000), wanted[to - 1]);
        }
        CHECKS.due("canExtend(4, 8)", x.canExtend(4, 8), 8);
        CHECKS.due("canExtend(4, 7)", x.canExtend(4, 7), -2);
        CHECKS.due("canExtend(4, 1)", x.canExtend(4, 1), -2);
        // 5a no and 5b no are the trials 9 and 10; then 4b is the last one.
        CHECKS.due("canExtend(5, 11)", x.canExtend(5, 11), -1);
        CHECKS.due("canExtend(5, 10)", x.canExtend(5, 10), -2);
        CHECKS.due("the colouring is as it was", Checks.picture(x), ".....");
        CHECKS.due("canExtend is no change", x.undo(), 0);
    }

    private static void presentColours() {
        SumColouring x = Checks.loaded("numbers 5 2;equation 1 1 1 0;colour 4 0;colour 2 1;");
        // 1a; 3a no (1 + 3 = 4), 3b; 5 a no (1 + 4), 5b no; then 1b no (1 + 1 = 2)
        CHECKS.due("canExtend(1, 9)", x.canExtend(1, 9), 1);
        CHECKS.due("canExtend(2, 9)", x.canExtend(2, 9), 1);
        CHECKS.due("canExtend(3, 9)", x.canExtend(3, 9), 3);
        CHECKS.due("canExtend(4, 9)", x.canExtend(4, 9), 3);
        CHECKS.due("canExtend(5, 9)", x.canExtend(5, 9), -1);
        CHECKS.due("canExtend(5, 6)", x.canExtend(5, 6), -1);
        CHECKS.due("canExtend(5, 5)", x.canExtend(5, 5), -2);
        SumColouring full = Checks.loaded("numbers 3 2;equation 1 1 1 0;colour 1 0;colour 2 0;");
        CHECKS.due("canExtend at once", full.canExtend(2, 1), 0);
        CHECKS.due("canExtend of a colouring with conflicts", full.canExtend(3, 2), 2);
        SumColouring later = Checks.loaded("numbers 3 2;progression 3;colour 3 1;colour 1 1;");
        CHECKS.due("canExtend with a greater number", later.canExtend(2, 2), 1);
        SumColouring none = Checks.loaded("numbers 3 1;equation 1 1 1 1;");
        CHECKS.due("canExtend where nothing is allowed", none.canExtend(1, 1), -1);
    }

    private static void freshColours() {
        // No colour is allowed for 3, so the trials tell how many colours are tried at 1, 2 and 3.
        String text = "numbers 3 4;equation 1 1 1 3;";
        // 1a; 2a no (2 + 2 = 1 + 3), 2b; 3a, 3b and 3c no
        CHECKS.due("fresh colours", Checks.loaded(text).canExtend(3, 3000), -1);
        CHECKS.due("fresh colours, 6 trials", Checks.loaded(text).canExtend(3, 6), -1);
        CHECKS.due("fresh colours, 5 trials", Checks.loaded(text).canExtend(3, 5), -2);
        // With 1c: 2a; 3a, 3b and 3c no; 2c no
        String third = "numbers 3 4;equation 1 1 1 3;colour 1 2;";
        CHECKS.due("a fresh colour below, 5 trials", Checks.loaded(third).canExtend(3, 5), -1);
        CHECKS.due("a fresh colour below, 4 trials", Checks.loaded(third).canExtend(3, 4), -2);
        SumColouring x = Checks.loaded("numbers 3 4;progression 3;colour 1 2;colour 3 2;");
        CHECKS.due("extend with colour 2 used", x.extend(3, 9), 1);
        CHECKS.due("picture", Checks.picture(x), "cac");
        SumColouring y = Checks.loaded("numbers 4 3;equation 1 1 1 0;colour 4 2;");
        CHECKS.due("extend with a greater number", y.extend(3, 9), 4);
        CHECKS.due("its picture", Checks.picture(y), "abac");
    }

    private static void longestColourings() {
        SumColouring x = Checks.loaded(SCHUR);
        CHECKS.due("longest(3000)", x.longest(3000), 4);
        int[] wanted = {1, 1, 2, 3, 3, 3, 3, 4, 4, 4, 4};
        for (int i = 1; i <= wanted.length; i++) {
            CHECKS.due("longest(" + i + ")", x.longest(i), wanted[i - 1]);
        }
        SumColouring y = Checks.loaded("numbers 5 2;equation 1 1 1 0;colour 1 1 fixed;colour 5 1;colour 2 1;");
        CHECKS.due("longest does not begin with the present colours", y.longest(8), 4);
        CHECKS.due("longest keeps the present colours", Checks.picture(y), "Bb..b");
        CHECKS.due("longest is no change", y.undo(), 0);
        CHECKS.due("longest of 8 with progressions of 3", Checks.loaded("numbers 9 2;progression 3;").longest(3000), 8);
        CHECKS.due("longest to the end", Checks.loaded("numbers 8 2;progression 3;").longest(3000), 8);
        CHECKS.due("longest of 3 colours", Checks.loaded("numbers 14 3;equation 1 1 1 0;").longest(3000), 13);
        CHECKS.due("longest without rules", Checks.loaded("numbers 40 1;").longest(40), 40);
        CHECKS.due("longest without rules, given up", Checks.loaded("numbers 40 1;").longest(39), 39);
        CHECKS.due("longest where nothing is allowed", Checks.loaded("numbers 3 1;equation 1 1 1 1;").longest(9), 0);
        CHECKS.due("longest of a new object", new SumColouring().longest(1), 0);
    }

    private static void extending() {
        SumColouring x = Checks.loaded(SCHUR);
        CHECKS.due("extend(4, 7)", x.extend(4, 7), -2);
        CHECKS.due("extend(5, 99)", x.extend(5, 99), -1);
        CHECKS.due("the colouring is as it was", Checks.picture(x), ".....");
        CHECKS.due("extend(4, 8)", x.extend(4, 8), 8);
        CHECKS.due("the colouring found", Checks.picture(x), "abba.");
        CHECKS.due("extend(4, 1) at once", x.extend(4, 1), 0);
        CHECKS.due("undo: also the extend at once is a change", x.undo(), 2);
        CHECKS.due("undo of the extend", x.undo(), 1);
        CHECKS.due("the colouring before", Checks.picture(x), ".....");
        SumColouring y = Checks.loaded("numbers 5 3;equation 1 1 1 0;colour 1 2 fixed;colour 4 2;");
        // 2a, 3a, 5a no (2 + 3), 5b
        CHECKS.due("extend with fixed numbers", y.extend(5, 99), 4);
        CHECKS.due("their colouring", Checks.picture(y), "Caacb");
    }

    private static void wrongCalls() {
        SumColouring x = Checks.loaded(SCHUR);
        for (int to : new int[] {0, 6, -1, Integer.MAX_VALUE, Integer.MIN_VALUE}) {
            CHECKS.dueNoNumber("canExtend(" + to + ", 1)", () -> x.canExtend(to, 1));
            CHECKS.dueNoNumber("canExtend(" + to + ", 0)", () -> x.canExtend(to, 0));
            CHECKS.dueNoNumber("extend(" + to + ", 1)", () -> x.extend(to, 1));
            CHECKS.dueNoNumber("extend(" + to + ", 0)", () -> x.extend(to, 0));
        }
        for (int t : new int[] {0, 3001, -1, Integer.MAX_VALUE, Integer.MIN_VALUE}) {
            CHECKS.dueNoArgument("canExtend(1, " + t + ")", () -> x.canExtend(1, t));
            CHECKS.dueNoArgument("extend(1, " + t + ")", () -> x.extend(1, t));
            CHECKS.dueNoArgument("longest(" + t + ")", () -> x.longest(t));
        }
        CHECKS.dueNoArgument("longest(0) of a new object", () -> new SumColouring().longest(0));
        CHECKS.dueNoNumber("extend(1, 1) of a new object", () -> new SumColouring().extend(1, 1));
        CHECKS.due("no throw is a change", x.undo(), 0);
    }
}
