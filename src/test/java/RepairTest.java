/** Promises 19 and 24: bestGain and repair. */
public final class RepairTest {
    private static final Checks CHECKS = new Checks();
    private static final int NO_STEP = -1000000;

    public static void main(String[] args) {
        noSteps();
        gains();
        choices();
        repeatedSteps();
        changes();
        wrongCalls();
        CHECKS.finish();
    }

    private static void noSteps() {
        CHECKS.due("bestGain of a new object", new SumColouring().bestGain(), NO_STEP);
        CHECKS.due("bestGain without colours", Checks.loaded("numbers 5 4;progression 3;").bestGain(), NO_STEP);
        CHECKS.due("bestGain with one colour", Checks.loaded("numbers 3 1;progression 3;colour 1 0;colour 2 0;colour 3 0;").bestGain(), NO_STEP);
        SumColouring fixed = Checks.loaded("numbers 3 2;progression 3;colour 1 0 fixed;colour 2 0 fixed;colour 3 0 fixed;");
        CHECKS.due("bestGain of fixed numbers", fixed.bestGain(), NO_STEP);
        CHECKS.due("repair of fixed numbers", fixed.repair(10), 0);
        CHECKS.due("their picture", Checks.picture(fixed), "AAA");
    }

    private static void gains() {
        CHECKS.due("gain 0", Checks.loaded("numbers 3 2;progression 3;colour 1 0;").bestGain(), 0);
        CHECKS.due("gain 7", Checks.loaded("numbers 3 2;progression 3;weight 7;colour 1 0;colour 2 0;colour 3 0;").bestGain(), 7);
        CHECKS.due("gain with weight 0", Checks.loaded("numbers 3 2;progression 3;weight 0;colour 1 0;colour 2 0;colour 3 0;").bestGain(), 0);
        // 3 is the only number that is not fixed; with colour 1 it makes the conflict 3, 4, 5 of weight 50.
        String text = "numbers 5 2;progression 3;weight largest*10;colour 4 1 fixed;colour 5 1 fixed;colour 3 0;";
        CHECKS.due("a negative gain", Checks.loaded(text).bestGain(), -50);
        CHECKS.due("a gain of 30 - 50", Checks.loaded(text + "colour 1 0 fixed;colour 2 0 fixed;").bestGain(), -20);
        SumColouring x = Checks.loaded(text);
        CHECKS.due("repair without a gain", x.repair(10), 0);
        CHECKS.due("its picture", Checks.picture(x), "..aBB");
        // Only the last number is not fixed.
        SumColouring last = Checks.loaded("numbers 40 2;progression 3;weight largest;colour 38 1 fixed;colour 39 1 fixed;colour 40 1;");
        CHECKS.due("the gain of the number 40", last.bestGain(), 40);
        CHECKS.due("repair of the number 40", last.repair(10), 1);
        CHECKS.due("its colour", last.colour(40), 0);
        // The weight of a conflict also depends on its colour.
        SumColouring y = Checks.loaded("numbers 3 2;progression 3;equation 1 1 1 0;weight 5-colour*5+rule*0;colour 1 1;colour 2 1;colour 3 1;");
        CHECKS.due("the gain where colour 1 weighs nothing", y.bestGain(), 0);
        y.swapColours(0, 1);
        CHECKS.due("the gain where colour 0 weighs 5", y.bestGain(), 20);
    }

    private static void choices() {
        // Each of the three numbers, and both other colours, gain the same.
        SumColouring x = Checks.loaded("numbers 3 3;progression 3;colour 1 2;colour 2 2;colour 3 2;");
        CHECKS.due("repair(1)", x.repair(1), 1);
        CHECKS.due("the smallest number, the smallest colour", Checks.picture(x), "acc");
        SumColouring y = Checks.loaded("numbers 3 3;progression 3;colour 1 0 fixed;colour 2 0;colour 3 0;");
        CHECKS.due("repair(1) beside a fixed number", y.repair(1), 1);
        CHECKS.due("the smallest number that is not fixed", Checks.picture(y), "Aba");
        // 3 lies in both conflicts 1, 2, 3 and 3, 4, 5 and in 1, 3, 5 and gains the most.
        SumColouring z = Checks.loaded("numbers 5 2;progression 3;colour 1 0;colour 2 0;colour 3 0;colour 4 0;colour 5 0;");
        CHECKS.due("bestGain of 3", z.bestGain(), 4);
        CHECKS.due("repair(1) with 3", z.repair(1), 1);
        CHECKS.due("its picture", Checks.picture(z), "aabaa");
        // With colour 1 the number 1 would make a conflict with 2 and 3, with colour 2 it makes none.
        SumColouring w = Checks.loaded("numbers 7 3;progression 3;colour 1 0;colour 4 0 fixed;colour 7 0 fixed;colour 2 1 fixed;colour 3 1 fixed;");
        CHECKS.due("bestGain with colour 2", w.bestGain(), 1);
        w.repair(10);
        CHECKS.due("a greater colour with a greater gain", Checks.picture(w), "cBBA..A");
    }

    private static void repeatedSteps() {
        String text = "numbers 9 2;progression 3;colour 1 0;colour 2 0;colour 3 0;colour 7 1;colour 8 1;colour 9 1;";
        SumColouring x = Checks.loaded(text);
        CHECKS.due("bestGain before", x.bestGain(), 1);
        CHECKS.due("repair(1)", x.repair(1), 1);
        CHECKS.due("picture after one step", Checks.picture(x), "baa...bbb");
        CHECKS.due("repair(10)", x.repair(10), 1);
        CHECKS.due("picture after two steps", Checks.picture(x), "baa...abb");
        CHECKS.due("repair(10) again", x.repair(10), 0);
        CHECKS.due("bestGain after", x.bestGain(), 0);
        SumColouring y = Checks.loaded(text);
        CHECKS.due("repair(2) at once", y.repair(2), 2);
        CHECKS.due("its picture", Checks.picture(y), "baa...abb");
        StringBuilder all = new StringBuilder("numbers 40 2;equation 1 1 1 39;");
        // x + y = z + 39 is solved by 39, 39, 39 and by many others; a step gains until few are left.
        for (int v = 1; v <= 40; v++) {
            all.append("colour ").append(v).append(" 0;");
        }
        SumColouring z = Checks.loaded(all.toString());
        int before = z.totalWeight();
        CHECKS.due("repair(10) of many conflicts", z.repair(10), 10);
        CHECKS.holds("fewer conflicts after it", z.totalWeight() < before);
        CHECKS.due("ten numbers have another colour", z.count(1), 10);
    }

    private static void changes() {
        SumColouring x = Checks.loaded("numbers 9 2;progression 3;colour 1 0;colour 2 0;colour 3 0;colour 7 1;colour 8 1;colour 9 1;");
        x.repair(2);
        CHECKS.due("repair without a step", x.repair(2), 0);
        CHECKS.due("undo of the repair without a step", x.undo(), 2);
        CHECKS.due("picture", Checks.picture(x), "baa...abb");
        CHECKS.due("undo of both steps", x.undo(), 1);
        CHECKS.due("picture before", Checks.picture(x), "aaa...bbb");
        x.bestGain();
        CHECKS.due("bestGain is no change", x.undo(), 0);
        SumColouring y = new SumColouring();
        CHECKS.due("repair of a new object", y.repair(10), 0);
        CHECKS.due("which is a change", y.undo(), 0);
    }

    private static void wrongCalls() {
        SumColouring x = Checks.loaded("numbers 3 2;progression 3;colour 1 0;colour 2 0;colour 3 0;");
        for (int most : new int[] {0, 11, -1, Integer.MAX_VALUE, Integer.MIN_VALUE}) {
            CHECKS.dueNoArgument("repair(" + most + ")", () -> x.repair(most));
        }
        CHECKS.due("picture after throws", Checks.picture(x), "aaa");
        CHECKS.due("no throw is a change", x.undo(), 0);
    }
}
