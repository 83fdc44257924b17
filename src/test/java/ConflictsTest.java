import java.util.NoSuchElementException;

/** Promises 12 to 16: conflicts, their weights, and the colours that are allowed. */
public final class ConflictsTest {
    private static final Checks CHECKS = new Checks();

    public static void main(String[] args) {
        none();
        some();
        wrongCalls();
        allowedColours();
        lonelySolutions();
        greatestNumbers();
        CHECKS.finish();
    }

    private static void none() {
        SumColouring x = new SumColouring();
        CHECKS.due("conflicts of a new object", x.conflicts(), 0);
        CHECKS.due("total weight of a new object", x.totalWeight(), 0);
        CHECKS.dueThrow("conflict(0, 0) of a new object", NoSuchElementException.class, () -> x.conflict(0, 0));
        CHECKS.dueNoNumber("conflictsOf(1) of a new object", () -> x.conflictsOf(1));
        CHECKS.dueNoNumber("allowed(1) of a new object", () -> x.allowed(1));
        SumColouring y = Checks.loaded("numbers 9 2;equation 1 1 1 0;progression 3;");
        CHECKS.due("conflicts without colours", y.conflicts(), 0);
        CHECKS.due("total weight without colours", y.totalWeight(), 0);
        CHECKS.due("conflictsOf without colours", y.conflictsOf(3), 0);
    }

    /** Colour 0 has 1, 2, 3, 5; colour 1 has 4, 6, 8. */
    private static SumColouring example() {
        return Checks.loaded("numbers 8 3;progression 3;equation 1 1 1 0;weight rule * 100 + largest * 10 + colour;"
            + "colour 1 0;colour 2 0;colour 3 0;colour 5 0;colour 4 1;colour 6 1;colour 8 1;");
    }

    private static void some() {
        SumColouring x = example();
        int[][] want = {
            {0, 1, 3, 0, 30}, {0, 1, 5, 0, 50}, {0, 4, 8, 1, 81},
            {1, 1, 2, 0, 120}, {1, 1, 3, 0, 130}, {1, 1, 3, 0, 130}, {1, 2, 5, 0, 150}, {1, 2, 5, 0, 150}, {1, 4, 8, 1, 181}
        };
        CHECKS.due("conflicts", x.conflicts(), want.length);
        int total = 0;
        for (int i = 0; i < want.length; i++) {
            for (int what = 0; what < 5; what++) {
                CHECKS.due("conflict(" + i + ", " + what + ")", x.conflict(i, what), want[i][what]);
            }
            total += want[i][4];
        }
        CHECKS.due("totalWeight", x.totalWeight(), total);
        int[] of = {5, 6, 6, 2, 3, 1, 0, 2};
        for (int v = 1; v <= 8; v++) {
            CHECKS.due("conflictsOf(" + v + ")", x.conflictsOf(v), of[v - 1]);
        }
        x.setColour(2, -1);
        CHECKS.due("conflicts without 2", x.conflicts(), 3);
        CHECKS.due("conflictsOf(2) without a colour", x.conflictsOf(2), 0);
        SumColouring heavy = Checks.loaded("numbers 4 1;equation 1 1 1 0;weight 5000;colour 1 0;colour 2 0;colour 3 0;colour 4 0;");
        CHECKS.due("a total weight beyond 999", heavy.totalWeight(), 6 * 999);
    }

    private static void wrongCalls() {
        SumColouring x = example();
        for (int i : new int[] {9, -1, Integer.MAX_VALUE, Integer.MIN_VALUE}) {
            CHECKS.dueThrow("conflict(" + i + ", 0)", NoSuchElementException.class, () -> x.conflict(i, 0));
            CHECKS.dueThrow("conflict(" + i + ", 5)", NoSuchElementException.class, () -> x.conflict(i, 5));
        }
        for (int what : new int[] {5, -1, Integer.MAX_VALUE, Integer.MIN_VALUE}) {
            CHECKS.dueNoArgument("conflict(0, " + what + ")", () -> x.conflict(0, what));
        }
        for (int v : new int[] {0, 9, -1, 65, Integer.MAX_VALUE, Integer.MIN_VALUE}) {
            CHECKS.dueNoNumber("conflictsOf(" + v + ")", () -> x.conflictsOf(v));
            CHECKS.dueNoNumber("allowed(" + v + ")", () -> x.allowed(v));
        }
        CHECKS.due("undo: the reading calls are no changes", x.undo(), 0);
    }

    private static void allowedColours() {
        SumColouring x = example();
        // 7 with 0 has 3, 5, 7 and 2 + 5 = 7; with 1 it has 6, 7, 8.
        x.setFixed(8, true);
        StringBuilder got = new StringBuilder();
        StringBuilder due = new StringBuilder();
        for (int v = 1; v <= 8; v++) {
            got.append(x.allowed(v)).append(' ');
            due.append(slowlyAllowed(x, v)).append(' ');
        }
        CHECKS.due("allowed", got.toString(), due.toString());
        CHECKS.due("allowed(7)", x.allowed(7), 4);
        CHECKS.due("the picture is as it was", Checks.picture(x), "aaabab.B");
        SumColouring y = Checks.loaded("numbers 5 2;equation 1 1 1 0;colour 1 0;colour 2 1;colour 3 1;colour 4 0;");
        CHECKS.due("allowed(5) of the example of Schur", y.allowed(5), 0);
        CHECKS.due("allowed(4) of the example of Schur", y.allowed(4), 1);
        CHECKS.due("allowed(3) of the example of Schur", y.allowed(3), 2);
        CHECKS.due("allowed without rules", Checks.loaded("numbers 2 4;").allowed(2), 15);
        CHECKS.due("allowed without rules, one colour", Checks.loaded("numbers 2 1;").allowed(2), 1);
    }

    /** By painting the number, and asking for its conflicts. */
    private static int slowlyAllowed(SumColouring x, int v) {
        int set = 0;
        boolean fixed = x.isFixed(v);
        x.setFixed(v, false);
        int before = x.colour(v);
        for (int c = 0; c < x.colourCount(); c++) {
            x.setColour(v, c);
            set |= x.conflictsOf(v) == 0 ? 1 << c : 0;
        }
        x.setColour(v, before);
        x.setFixed(v, fixed);
        return set;
    }

    private static void greatestNumbers() {
        // 38, 39, 40 and 20 + 20 = 40, each with a weight of its own.
        SumColouring x = Checks.loaded("numbers 40 4;progression 6;equation 1 1 1 0 distinct;progression 3;equation 1 1 1 0;"
            + "weight rule*100+largest*10+colour;colour 38 3;colour 39 3;colour 40 3;colour 20 3;");
        CHECKS.due("conflicts up to 40", x.conflicts(), 2);
        int[][] want = {{2, 38, 40, 3, 603}, {3, 20, 40, 3, 703}};
        for (int i = 0; i < 2; i++) {
            for (int what = 0; what < 5; what++) {
                CHECKS.due("conflict(" + i + ", " + what + ") up to 40", x.conflict(i, what), want[i][what]);
            }
        }
        CHECKS.due("totalWeight up to 40", x.totalWeight(), 1306);
        CHECKS.due("conflictsOf(40)", x.conflictsOf(40), 2);
        CHECKS.due("conflictsOf(39)", x.conflictsOf(39), 1);
        CHECKS.due("allowed(40)", x.allowed(40), 7);
        CHECKS.due("allowed(39)", x.allowed(39), 7);
        CHECKS.due("allowed(1)", x.allowed(1), 7);
        CHECKS.due("allowed(2)", x.allowed(2), 7);
        CHECKS.due("allowed(3)", x.allowed(3), 15);
    }

    private static void lonelySolutions() {
        // x + y = z + 3 is solved by 3 alone, so no colour suits 3.
        SumColouring x = Checks.loaded("numbers 5 3;equation 1 1 1 3;");
        CHECKS.due("allowed(3)", x.allowed(3), 0);
        CHECKS.due("allowed(2)", x.allowed(2), 7);
        x.setColour(3, 1);
        CHECKS.due("conflicts of 3 alone", x.conflicts(), 1);
        CHECKS.due("its smallest number", x.conflict(0, 1), 3);
        CHECKS.due("its greatest number", x.conflict(0, 2), 3);
        CHECKS.due("the weight of 1 alone", Checks.loaded("numbers 2 1;equation 1 1 1 1;weight 7;colour 1 0;").totalWeight(), 7);
        x.setColour(2, 1);
        // 2 + 3 = 2 + 3 and 3 + 2 = 2 + 3 besides.
        CHECKS.due("conflicts of 2 and 3", x.conflicts(), 3);
        CHECKS.due("conflictsOf(2)", x.conflictsOf(2), 2);
        CHECKS.due("conflictsOf(3)", x.conflictsOf(3), 3);
        CHECKS.due("a distinct equation has none of them",
            Checks.loaded("numbers 5 3;equation 1 1 1 3 distinct;colour 3 1;colour 2 1;").conflicts(), 0);
    }
}
