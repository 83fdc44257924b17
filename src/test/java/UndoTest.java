/** Promises 25 and 26: undo and checksum. */
public final class UndoTest {
    private static final Checks CHECKS = new Checks();

    public static void main(String[] args) {
        eightChanges();
        loads();
        whatIsNotUndone();
        checksums();
        CHECKS.finish();
    }

    private static void eightChanges() {
        SumColouring x = Checks.loaded("numbers 12 2;");
        for (int v = 1; v <= 12; v++) {
            x.setColour(v, 0);
        }
        for (int left = 7; left >= 0; left--) {
            CHECKS.due("undo", x.undo(), left);
            CHECKS.due("numbers with a colour", x.count(0), 4 + left);
        }
        CHECKS.due("undo beyond 8", x.undo(), -1);
        CHECKS.due("undo beyond 8 again", x.undo(), -1);
        CHECKS.due("picture", Checks.picture(x), "aaaa........");
        x.setColour(5, 1);
        x.setFixed(5, true);
        CHECKS.due("undo after a new change", x.undo(), 1);
        CHECKS.due("picture after a new change", Checks.picture(x), "aaaab.......");
        x.swapColours(0, 1);
        CHECKS.due("undo is no change", x.undo(), 1);
        CHECKS.due("undo of the one before", x.undo(), 0);
        CHECKS.due("picture at last", Checks.picture(x), "aaaa........");
        CHECKS.due("nothing left", x.undo(), -1);
    }

    private static void loads() {
        SumColouring x = new SumColouring();
        for (int n = 1; n <= 12; n++) {
            CHECKS.due("load " + n, Checks.load(x, "numbers " + (2 + n) + " " + (1 + n % 4) + ";progression 3;colour 1 0;colour 2 0;colour 3 0 fixed;weight " + n + ";"), 1);
        }
        for (int left = 7; left >= 0; left--) {
            int n = left + 4;
            CHECKS.due("undo of a load", x.undo(), left);
            CHECKS.due("n", x.numberCount(), 2 + n);
            CHECKS.due("k", x.colourCount(), 1 + n % 4);
            CHECKS.due("weight", x.totalWeight(), n);
            CHECKS.due("fixed", Checks.asLong(x.isFixed(3)), 1);
            int m = 2 + n;
            CHECKS.due("solutions", x.solutions(0), (m / 2) * ((m - 1) / 2));
        }
        CHECKS.due("undo beyond 8 loads", x.undo(), -1);
        SumColouring y = Checks.loaded("numbers 5 2;equation 1 1 1 0;colour 1 0;");
        Checks.load(y, "numbers 9 3;progression 3;progression 4;colour 9 2 fixed;");
        CHECKS.due("undo of the second load", y.undo(), 1);
        CHECKS.due("solutions of the first one", y.solutions(0), 10);
        CHECKS.dueNoNumber("solutions(1) of the first one", () -> y.solutions(1));
        CHECKS.due("allowed of the first one", y.allowed(2), 2);
        CHECKS.due("picture of the first one", Checks.picture(y), "a....");
        CHECKS.due("undo of the first load", y.undo(), 0);
        CHECKS.due("n of a new object", y.numberCount(), 0);
        CHECKS.due("k of a new object", y.colourCount(), 0);
        CHECKS.due("rules of a new object", y.ruleCount(), 0);
        CHECKS.due("conflicts of a new object", y.conflicts(), 0);
        CHECKS.due("bestGain of a new object", y.bestGain(), -1000000);
        CHECKS.due("longest of a new object", y.longest(5), 0);
    }

    private static void whatIsNotUndone() {
        SumColouring x = Checks.loaded("numbers 5 2;progression 3;");
        x.setColour(1, 1);
        Checks.load(x, "numbers 5 2;?");
        x.append(0x6e756d62, 0x65727320, 0x37203320, 0x20202020, 0x2020203b);
        CHECKS.due("undo", x.undo(), 1);
        CHECKS.due("the error offset stays", x.errorOffset(), 12);
        CHECKS.due("the buffer stays", x.append(0, 0, 0, 0, 0), 40);
        CHECKS.due("it can be loaded", x.load(20), 0);
        CHECKS.due("n", x.numberCount(), 7);
        CHECKS.due("undo of that load", x.undo(), 1);
        CHECKS.due("the error offset of that load stays", x.errorOffset(), -1);
    }

    private static void checksums() {
        CHECKS.due("checksum of a new object", new SumColouring().checksum(), 0);
        CHECKS.due("checksum of one number", Checks.loaded("numbers 1 1;").checksum(), -29791);
        CHECKS.due("checksum of one fixed number", Checks.loaded("numbers 1 2;colour 1 1 fixed;").checksum(), 29791 + 961);
        // 3 is alone a solution of x + y = z + 3, and its weight is 17.
        SumColouring x = Checks.loaded("numbers 3 3;equation 1 1 1 3;weight 17;colour 3 2;");
        long sum = 0;
        for (long n : new long[] {-1, 0, -1, 0, 2, 0, 1, 17}) {
            sum = 31 * sum + n;
        }
        CHECKS.due("checksum with a conflict", x.checksum(), sum);
        SumColouring y = Checks.loaded("numbers 40 4;colour 40 3 fixed;colour 1 2;");
        sum = 0;
        for (int v = 1; v <= 40; v++) {
            sum = 31 * sum + (v == 1 ? 2 : v == 40 ? 3 : -1);
            sum = 31 * sum + (v == 40 ? 1 : 0);
        }
        CHECKS.due("checksum that wraps around", y.checksum(), sum * 961);
        CHECKS.due("checksum is no change", y.undo(), 0);
    }
}
