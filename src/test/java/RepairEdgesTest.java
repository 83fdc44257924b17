/** The sentences on the repair step, and promises 19 and 24, with a test of its own for each one. */
public final class RepairEdgesTest {
    private static final Checks CHECKS = new Checks();
    private static final int NO_STEP = -1000000;
    private static final String SIX = "numbers 7 2;progression 3;weight largest;colour 1 0;colour 2 0;colour 3 0;colour 5 0;colour 6 0;colour 7 0;";
    /** Each number v of colour 0 is the solution v + v = 2 * v of weight 5, and each step to colour 1 gains. */
    private static final String EACH = "equation 1 1 2 0;weight 5-colour*5;";

    public static void main(String[] args) {
        whichNumbers();
        gain();
        gainOfEachPlace();
        bestStep();
        bestGain();
        againAndAgain();
        mostSteps();
        answers();
        refused();
        CHECKS.finish();
    }

    private static String all(int n, int colour) {
        StringBuilder text = new StringBuilder();
        for (int v = 1; v <= n; v++) {
            text.append("colour ").append(v).append(' ').append(colour).append(';');
        }
        return text.toString();
    }

    private static void dueGain(String text, int want) {
        CHECKS.due("bestGain of " + text, Checks.loaded(text).bestGain(), want);
    }

    private static void dueRepair(String text, int most, int want, String picture) {
        SumColouring x = Checks.loaded(text);
        CHECKS.due("repair(" + most + ") of " + text, x.repair(most), want);
        CHECKS.due("the picture of " + text, Checks.picture(x), picture);
    }

    private static void whichNumbers() {
        CHECKS.of(0, "A repair step gives a number that has a colour and is not fixed another colour.");
        dueGain("numbers 3 2;progression 3;", NO_STEP);
        dueGain("numbers 3 2;progression 3;colour 1 0 fixed;colour 2 0 fixed;colour 3 0 fixed;", NO_STEP);
        dueGain("numbers 3 1;progression 3;" + all(3, 0), NO_STEP);
        dueGain("numbers 1 1;" + all(1, 0), NO_STEP);
        dueGain("numbers 1 2;" + all(1, 0), 0);
        dueGain("numbers 1 2;colour 1 0 fixed;", NO_STEP);
        dueGain("numbers 3 2;progression 3;colour 1 0 fixed;colour 2 0 fixed;colour 3 0;", 1);
        dueRepair("numbers 3 2;progression 3;colour 1 0 fixed;colour 2 0 fixed;colour 3 0;", 10, 1, "AAb");
        dueRepair("numbers 3 2;progression 3;colour 1 0 fixed;colour 2 0;colour 3 0 fixed;", 10, 1, "AbA");
        dueRepair("numbers 4 2;progression 3;colour 1 0;colour 2 0;colour 3 0;", 10, 1, "baa.");
        dueRepair("numbers 3 2;progression 3;colour 1 0 fixed;colour 2 0 fixed;colour 3 0 fixed;", 10, 0, "AAA");
    }

    private static void gain() {
        CHECKS.of(0, "Its gain is the total weight before minus the total weight after it.");
        String[] texts = {
            "numbers 9 3;progression 3;equation 1 1 1 0;weight rule*100+largest*10+colour;" + all(9, 2),
            "numbers 9 2;progression 3;equation 1 2 2 1 distinct;weight 900-largest*90;" + all(6, 1) + "colour 9 0;colour 8 0;",
            "numbers 5 4;equation 1 1 1 3;equation 1 1 1 0;weight 40-colour*9;" + all(5, 3),
            "numbers 40 2;" + "equation 1 1 1 20;".repeat(4) + "weight 999;" + all(31, 0)
        };
        for (String text : texts) {
            SumColouring x = Checks.loaded(text);
            int before = x.totalWeight();
            int best = NO_STEP;
            for (int v = 1; v <= x.numberCount(); v++) {
                int own = x.colour(v);
                for (int c = 0; own >= 0 && c < x.colourCount(); c++) {
                    if (c != own) {
                        x.setColour(v, c);
                        best = Math.max(best, before - x.totalWeight());
                    }
                }
                x.setColour(v, own);
            }
            CHECKS.due("bestGain of " + text, x.bestGain(), best);
            x.repair(1);
            CHECKS.due("the weight that a step takes off " + text, before - x.totalWeight(), Math.max(0, best));
        }
        dueGain("numbers 3 2;progression 3;weight 999;" + all(3, 0), 999);
        dueGain("numbers 3 2;progression 3;weight 0;" + all(3, 0), 0);
        dueGain("numbers 3 2;progression 3;colour 1 0 fixed;colour 2 0 fixed;colour 3 1;weight 999;", -999);
    }

    private static void gainOfEachPlace() {
        CHECKS.of(0, "Its gain is the total weight before minus the total weight after it.");
        for (int length = 3; length <= 6; length++) {
            for (int place = 0; place < length; place++) {
                SumColouring x = Checks.loaded("numbers 40 2;progression " + length + ";weight largest;");
                for (int i = 0; i < length; i++) {
                    x.setColour(40 - 7 * i, 1);
                    x.setFixed(40 - 7 * i, i != place);
                }
                CHECKS.due("bestGain with the place " + place + " of " + length, x.bestGain(), 40);
                x.setColour(40 - 7 * place, 0);
                CHECKS.due("bestGain of the way back", x.bestGain(), -40);
            }
        }
    }

    private static void bestStep() {
        CHECKS.of(0, "The best repair step is the one with the greatest gain; of several, the one with the smallest number, then with the smallest colour.");
        // 3 lies in 1, 2, 3 and in 3, 4, 5 and in 1, 3, 5; the others in less.
        dueRepair("numbers 5 2;progression 3;" + all(5, 0), 1, 1, "aabaa");
        dueRepair("numbers 5 4;progression 3;" + all(5, 3), 1, 1, "ddadd");
        // All three numbers and all other colours gain 1.
        dueRepair("numbers 3 4;progression 3;" + all(3, 0), 1, 1, "baa");
        dueRepair("numbers 3 4;progression 3;" + all(3, 1), 1, 1, "abb");
        dueRepair("numbers 3 4;progression 3;" + all(3, 3), 1, 1, "add");
        dueRepair("numbers 3 4;progression 3;colour 1 2 fixed;colour 2 2;colour 3 2;", 1, 1, "Cac");
        dueRepair("numbers 3 4;progression 3;colour 1 2 fixed;colour 2 2 fixed;colour 3 2;", 1, 1, "CCa");
        // 1, 2, 3 and 1, 5, 9 would be conflicts if 1 had colour 0 or 1.
        dueRepair("numbers 9 4;progression 3;colour 1 2;colour 4 2 fixed;colour 7 2 fixed;colour 2 0 fixed;colour 3 0 fixed;"
            + "colour 5 1 fixed;colour 9 1 fixed;", 1, 1, "dAACB.C.B");
        // 1 gains with colour 1 only, for 1, 4, 7 would be a conflict; 2 gains as much with colour 0.
        dueRepair("numbers 7 3;progression 3;colour 1 2;colour 2 2;colour 3 2 fixed;colour 4 0 fixed;colour 7 0 fixed;", 1, 1, "bcCA..A");
        // By 5 go 5, 6, 7 and 1, 3, 5 and 3, 5, 7, which weigh 19; by 3 go as many, which weigh 15.
        dueRepair(SIX, 1, 1, "aaa.baa");
    }

    private static void bestGain() {
        CHECKS.of(19, "Tells the gain of the best repair step.");
        SumColouring x = Checks.loaded(SIX);
        String before = Checks.state(x);
        CHECKS.due("bestGain", x.bestGain(), 19);
        CHECKS.due("the state after it", Checks.state(x), before);
        CHECKS.due("it is no change", x.undo(), 0);
        CHECKS.of(19, "Returns this gain, which can be negative or 0; -1000000 if there is no repair step.");
        CHECKS.due("without numbers", new SumColouring().bestGain(), NO_STEP);
        dueGain("numbers 40 4;progression 3;", NO_STEP);
        dueGain("numbers 40 1;progression 3;" + all(40, 0), NO_STEP);
        dueGain("numbers 2 2;progression 3;" + all(2, 0), 0);
        dueGain("numbers 1 2;equation 1 1 1 1;weight colour*7;" + all(1, 0), -7);
        dueGain("numbers 1 2;equation 1 1 1 1;weight colour*7;" + all(1, 1), 7);
        dueGain("numbers 1 2;equation 1 1 1 1;weight colour*1000;" + all(1, 0), -999);
        // By 20 go 40 solutions 20 + y = y + 20, as many with x, and 39 with z = 20; 20 + 20 = 20 + 20 is all of them, and stays.
        SumColouring y = Checks.loaded("numbers 40 2;" + "equation 1 1 1 20;".repeat(4) + "weight 999;");
        for (int v = 1; v <= 40; v++) {
            y.setColour(v, 0);
            y.setFixed(v, v != 20);
        }
        CHECKS.due("a great gain", y.bestGain(), 4 * 116 * 999);
        y.setColour(20, 1);
        CHECKS.due("a great loss", y.bestGain(), -4 * 116 * 999);
    }

    private static void againAndAgain() {
        CHECKS.of(24, "Makes the best repair step again and again, as long as its gain is greater than 0, but at most a number of times.");
        String two = "numbers 9 2;progression 3;colour 1 0;colour 2 0;colour 3 0;colour 7 1;colour 8 1;colour 9 1;";
        dueRepair(two, 1, 1, "baa...bbb");
        dueRepair(two, 2, 2, "baa...abb");
        dueRepair(two, 3, 2, "baa...abb");
        dueRepair(two, 10, 2, "baa...abb");
        // A gain of 0, or below 0, ends it at once.
        dueRepair("numbers 3 2;progression 3;weight 0;" + all(3, 0), 10, 0, "aaa");
        dueRepair("numbers 3 2;colour 1 0;colour 2 1;", 10, 0, "ab.");
        dueRepair("numbers 1 2;equation 1 1 1 1;weight colour*7;" + all(1, 0), 10, 0, "a");
        dueRepair("numbers 1 2;equation 1 1 1 1;weight colour*7;" + all(1, 1), 10, 1, "a");
        dueRepair("numbers 3 2;progression 3;", 10, 0, "...");
        dueRepair("numbers 3 1;progression 3;" + all(3, 0), 10, 0, "aaa");
    }

    private static void mostSteps() {
        CHECKS.of(24, "- `most`: 1 to 10");
        for (int most = 1; most <= 10; most++) {
            SumColouring x = Checks.loaded("numbers 11 2;" + EACH + all(11, 0));
            CHECKS.due("repair(" + most + ") of 11 steps", x.repair(most), most);
            CHECKS.due("numbers with colour 1", x.count(1), most);
            CHECKS.due("undo takes all steps back", x.undo(), 1);
            CHECKS.due("numbers with colour 1 after undo", x.count(1), 0);
        }
        dueRepair("numbers 9 2;" + EACH + all(9, 0), 10, 9, "b".repeat(9));
        dueRepair("numbers 10 2;" + EACH + all(10, 0), 10, 10, "b".repeat(10));
        dueRepair("numbers 10 2;" + EACH + all(9, 0), 10, 9, "b".repeat(9) + ".");
    }

    private static void answers() {
        CHECKS.of(24, "Returns the number of steps that were made.");
        SumColouring x = Checks.loaded("numbers 12 2;" + EACH + all(12, 0));
        CHECKS.due("repair(1)", x.repair(1), 1);
        CHECKS.due("repair(10)", x.repair(10), 10);
        CHECKS.due("the last one", x.repair(10), 1);
        CHECKS.due("none is left", x.repair(10), 0);
        CHECKS.due("and none again", x.repair(1), 0);
        CHECKS.due("none without numbers", new SumColouring().repair(10), 0);
        CHECKS.due("none without rules", Checks.loaded("numbers 40 4;" + all(40, 3)).repair(10), 0);
    }

    private static void refused() {
        CHECKS.of(24, "Throws `IllegalArgumentException` if most is out of range");
        SumColouring empty = new SumColouring();
        SumColouring x = Checks.loaded("numbers 3 2;progression 3;" + all(3, 0));
        for (int most : new int[] {0, 11, -1, 12, 100, Integer.MAX_VALUE, Integer.MIN_VALUE}) {
            CHECKS.dueRefused("repair(" + most + ")", IllegalArgumentException.class, x, () -> x.repair(most));
            CHECKS.dueRefused("repair(" + most + ") of a new object", IllegalArgumentException.class, empty, () -> empty.repair(most));
        }
        CHECKS.due("none of them is a change", x.undo(), 0);
        CHECKS.due("none of them is a change of a new object", empty.undo(), -1);
    }
}
