/** Promises 9 to 11 and 20 to 22: colours, fixed numbers, counts, and the changes of them. */
public final class ColouringTest {
    private static final Checks CHECKS = new Checks();
    private static final String TEXT = "numbers 6 3;colour 1 0;colour 2 2 fixed;colour 3 1 fixed;colour 3 1;colour 6 2;colour 5 1;colour 5 0 fixed;";

    public static void main(String[] args) {
        reading();
        counting();
        painting();
        fixing();
        swapping();
        CHECKS.finish();
    }

    private static void reading() {
        SumColouring x = Checks.loaded(TEXT);
        int[] colours = {0, 2, 1, -1, 0, 2};
        boolean[] fixed = {false, true, false, false, true, false};
        for (int v = 1; v <= 6; v++) {
            CHECKS.due("colour(" + v + ")", x.colour(v), colours[v - 1]);
            CHECKS.due("isFixed(" + v + ")", Checks.asLong(x.isFixed(v)), Checks.asLong(fixed[v - 1]));
        }
        for (int v : new int[] {0, 7, -1, 65, 66, Integer.MAX_VALUE, Integer.MIN_VALUE}) {
            CHECKS.dueNoNumber("colour(" + v + ")", () -> x.colour(v));
            CHECKS.dueNoNumber("isFixed(" + v + ")", () -> Checks.asLong(x.isFixed(v)));
        }
        SumColouring last = Checks.loaded("numbers 40 4;colour 40 3 fixed;colour 32 1;");
        CHECKS.due("colour(40)", last.colour(40), 3);
        CHECKS.due("isFixed(40)", Checks.asLong(last.isFixed(40)), 1);
        CHECKS.due("colour(32)", last.colour(32), 1);
        CHECKS.due("colour(8)", last.colour(8), -1);
        CHECKS.due("isFixed(8)", Checks.asLong(last.isFixed(8)), 0);
    }

    private static void counting() {
        SumColouring x = Checks.loaded(TEXT);
        CHECKS.due("count(-1)", x.count(-1), 1);
        CHECKS.due("count(0)", x.count(0), 2);
        CHECKS.due("count(1)", x.count(1), 1);
        CHECKS.due("count(2)", x.count(2), 2);
        for (int c : new int[] {3, 4, -2, Integer.MAX_VALUE, Integer.MIN_VALUE}) {
            CHECKS.dueNoNumber("count(" + c + ")", () -> x.count(c));
        }
        CHECKS.due("count(-1) of a new object", new SumColouring().count(-1), 0);
        CHECKS.dueNoNumber("count(0) of a new object", () -> new SumColouring().count(0));
        CHECKS.due("count(-1) of 40", Checks.loaded("numbers 40 1;").count(-1), 40);
    }

    private static void painting() {
        SumColouring x = Checks.loaded(TEXT);
        CHECKS.due("setColour(4, 2)", x.setColour(4, 2), -1);
        CHECKS.due("setColour(1, 1)", x.setColour(1, 1), 0);
        CHECKS.due("setColour(6, -1)", x.setColour(6, -1), 2);
        CHECKS.due("setColour(6, -1) again", x.setColour(6, -1), -1);
        CHECKS.due("setColour(3, 1) as it is", x.setColour(3, 1), 1);
        CHECKS.due("picture", Checks.picture(x), "bCbcA.");
        CHECKS.dueNoState("setColour of a fixed number", () -> x.setColour(2, 0));
        CHECKS.dueNoState("setColour of a fixed number to its colour", () -> x.setColour(2, 2));
        CHECKS.dueNoState("setColour of a fixed number to none", () -> x.setColour(5, -1));
        CHECKS.dueNoNumber("setColour(2, 3), fixed and no such colour", () -> x.setColour(2, 3));
        CHECKS.dueNoNumber("setColour(1, -2)", () -> x.setColour(1, -2));
        CHECKS.dueNoNumber("setColour(0, 0)", () -> x.setColour(0, 0));
        CHECKS.dueNoNumber("setColour(7, 0)", () -> x.setColour(7, 0));
        CHECKS.dueNoNumber("setColour(max, max)", () -> x.setColour(Integer.MAX_VALUE, Integer.MAX_VALUE));
        CHECKS.due("picture after throws", Checks.picture(x), "bCbcA.");
        CHECKS.due("undo counts no throws", x.undo(), 5);
    }

    private static void fixing() {
        SumColouring x = Checks.loaded(TEXT);
        CHECKS.due("setFixed(1, true)", Checks.asLong(x.setFixed(1, true)), 0);
        CHECKS.due("setFixed(1, true) again", Checks.asLong(x.setFixed(1, true)), 1);
        CHECKS.due("setFixed(2, false)", Checks.asLong(x.setFixed(2, false)), 1);
        CHECKS.due("setFixed(2, false) again", Checks.asLong(x.setFixed(2, false)), 0);
        CHECKS.due("setFixed(4, false) without a colour", Checks.asLong(x.setFixed(4, false)), 0);
        CHECKS.due("picture", Checks.picture(x), "Acb.Ac");
        CHECKS.dueNoState("setFixed(4, true) without a colour", () -> Checks.asLong(x.setFixed(4, true)));
        CHECKS.dueNoNumber("setFixed(0, true)", () -> Checks.asLong(x.setFixed(0, true)));
        CHECKS.dueNoNumber("setFixed(7, false)", () -> Checks.asLong(x.setFixed(7, false)));
        CHECKS.due("picture after throws", Checks.picture(x), "Acb.Ac");
        CHECKS.due("undo counts no throws", x.undo(), 5);
        x.setColour(2, 1);
        CHECKS.due("a number that is no longer fixed", x.colour(2), 1);
        x.setColour(2, -1);
        x.setColour(2, 0);
        CHECKS.due("a number painted anew is not fixed", Checks.asLong(x.isFixed(2)), 0);
    }

    private static void swapping() {
        SumColouring x = Checks.loaded(TEXT);
        CHECKS.due("swapColours(0, 2)", x.swapColours(0, 2), 4);
        CHECKS.due("picture", Checks.picture(x), "cAb.Ca");
        CHECKS.due("swapColours(1, 0)", x.swapColours(1, 0), 3);
        CHECKS.due("picture again", Checks.picture(x), "cBa.Cb");
        CHECKS.due("swapColours(1, 1)", x.swapColours(1, 1), 0);
        CHECKS.due("picture as it was", Checks.picture(x), "cBa.Cb");
        for (int c : new int[] {-1, 3, 4, Integer.MAX_VALUE, Integer.MIN_VALUE}) {
            CHECKS.dueNoNumber("swapColours(0, " + c + ")", () -> x.swapColours(0, c));
            CHECKS.dueNoNumber("swapColours(" + c + ", 0)", () -> x.swapColours(c, 0));
            CHECKS.dueNoNumber("swapColours(" + c + ", " + c + ")", () -> x.swapColours(c, c));
        }
        CHECKS.due("undo counts the swap of one colour", x.undo(), 3);
        SumColouring y = Checks.loaded("numbers 3 2;");
        CHECKS.due("swapColours of colours that no number has", y.swapColours(0, 1), 0);
        CHECKS.due("which is a change", y.undo(), 1);
    }
}
