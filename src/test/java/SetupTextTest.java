/** Promises 1 to 7: a new object, append, load, errorOffset and the three counts. */
public final class SetupTextTest {
    private static final Checks CHECKS = new Checks();
    private static final int SYNTAX = SumColouring.SYNTAX_ERROR;
    private static final int RANGE = SumColouring.OUT_OF_RANGE;
    private static final int MANY = SumColouring.TOO_MANY;
    private static final int DEEP = SumColouring.TOO_DEEP;
    private static final String FOUR = "numbers 9 2;progression 3;equation 1 1 1 0;progression 4;equation 2 2 2 0;";

    public static void main(String[] args) {
        newObject();
        appending();
        loading();
        lengths();
        goodTexts();
        syntaxErrors();
        rangeErrors();
        ruleErrors();
        depthErrors();
        errorsLeaveData();
        errorOffsets();
        CHECKS.finish();
    }

    private static void newObject() {
        SumColouring x = new SumColouring();
        CHECKS.due("new numberCount", x.numberCount(), 0);
        CHECKS.due("new colourCount", x.colourCount(), 0);
        CHECKS.due("new ruleCount", x.ruleCount(), 0);
        CHECKS.due("new errorOffset", x.errorOffset(), -1);
        CHECKS.due("new undo", x.undo(), -1);
        CHECKS.due("new checksum", x.checksum(), 0);
        CHECKS.dueNoArgument("new load(1)", () -> x.load(1));
        CHECKS.due("new errorOffset after a throw", x.errorOffset(), -1);
        CHECKS.due("SYNTAX_ERROR", SYNTAX, -2);
        CHECKS.due("OUT_OF_RANGE", RANGE, -3);
        CHECKS.due("TOO_MANY", MANY, -4);
        CHECKS.due("TOO_DEEP", DEEP, -5);
    }

    private static void appending() {
        SumColouring x = new SumColouring();
        for (int i = 1; i <= 30; i++) {
            CHECKS.due("append " + i, x.append(0x20202020, 0x20202020, 0x20202020, 0x20202020, 0x20202020), 20 * i);
        }
        CHECKS.due("append beyond 600", x.append(0, 0, 0, 0, 0), -1);
        CHECKS.due("append beyond 600 again", x.append(0, 0, 0, 0, 0), -1);
        CHECKS.due("load of 600 spaces", x.load(600), SYNTAX);
        CHECKS.due("offset behind 600 spaces", x.errorOffset(), 600);
        CHECKS.due("append after load", x.append(0x6e756d62, 0x65727320, 0x37203320, 0x20202020, 0x2020203b), 20);
        CHECKS.due("load of the 20 bytes", x.load(20), 0);
        CHECKS.due("n", x.numberCount(), 7);
        CHECKS.due("k", x.colourCount(), 3);
        x.append(0x80ff0001, -1, Integer.MIN_VALUE, 0, 1);
        CHECKS.due("load of high bytes", x.load(20), SYNTAX);
        CHECKS.due("offset of high bytes", x.errorOffset(), 0);
    }

    private static void loading() {
        SumColouring x = Checks.loaded("numbers 6 2;progression 3;equation 1 1 1 0;colour 2 1 fixed;");
        CHECKS.due("numberCount", x.numberCount(), 6);
        CHECKS.due("colourCount", x.colourCount(), 2);
        CHECKS.due("ruleCount", x.ruleCount(), 2);
        CHECKS.due("picture", Checks.picture(x), ".B....");
        CHECKS.due("load of a shorter text", Checks.load(x, "numbers 3 4;colour 1 3;"), 0);
        CHECKS.due("picture of the shorter one", Checks.picture(x), "d..");
        CHECKS.due("rules of the shorter one", x.ruleCount(), 0);
        CHECKS.due("load with 4 rules", Checks.load(x, FOUR), 4);
        CHECKS.due("ruleCount 4", x.ruleCount(), 4);
        CHECKS.due("numberCount 9", x.numberCount(), 9);
    }

    private static void lengths() {
        SumColouring x = new SumColouring();
        Checks.fill(x, "numbers 8 4;");
        CHECKS.dueNoArgument("load(-1)", () -> x.load(-1));
        CHECKS.dueNoArgument("load(21)", () -> x.load(21));
        CHECKS.dueNoArgument("load(min)", () -> x.load(Integer.MIN_VALUE));
        CHECKS.dueNoArgument("load(max)", () -> x.load(Integer.MAX_VALUE));
        CHECKS.due("load after throws", x.load(20), 0);
        CHECKS.due("n after throws", x.numberCount(), 8);
        CHECKS.dueNoArgument("load(12) of an emptied buffer", () -> x.load(12));
        CHECKS.due("load(0)", x.load(0), SYNTAX);
        CHECKS.due("offset of the empty text", x.errorOffset(), 0);
        Checks.fill(x, "numbers 8 4;bad");
        CHECKS.due("load of the first bytes only", x.load(12), 0);
        CHECKS.due("append after a load of the first bytes", x.append(0, 0, 0, 0, 0), 20);
        CHECKS.due("load with an error", x.load(7), SYNTAX);
        CHECKS.due("append after a load with an error", x.append(0, 0, 0, 0, 0), 20);
    }

    private static void goodTexts() {
        CHECKS.dueRules(0, "numbers 1 1;");
        CHECKS.dueRules(0, "numbers 40 4;");
        CHECKS.dueRules(0, "numbers40 4;");
        CHECKS.dueRules(0, "   numbers   0000000000000000000040   00000000000004  ;   ");
        CHECKS.dueRules(2, "numbers 9 2;equation1 1 1 0distinct;progression3;colour1 0fixed;weight0;");
        CHECKS.dueRules(4, "numbers 9 2;equation 9 9 9 99;equation 9 9 9 - 99;equation 1 1 1 -0;equation 1 1 1 00000000000000099;");
        CHECKS.dueRules(2, "numbers 9 2;progression 3;progression 6;");
        CHECKS.dueRules(0, "numbers 9 2;weight 9999+0-rule*largest/colour-(1);");
        CHECKS.dueRules(0, "numbers 9 2;weight((((1))))+((((rule))));");
        CHECKS.dueRules(0, "numbers 9 2;colour 9 1;colour 9 0 fixed;colour 9 1;");
        CHECKS.dueRules(0, "numbers 9 2;weight 00000000000000000000000009999;");
    }

    private static void syntaxErrors() {
        CHECKS.dueError(SYNTAX, "", "number 9 2;");
        CHECKS.dueError(SYNTAX, "", "numbersx 9 2;");
        CHECKS.dueError(SYNTAX, "", "Numbers 9 2;");
        CHECKS.dueError(SYNTAX, "", "xumbers 9 2;");
        CHECKS.dueError(SYNTAX, "numbers 9 2;", "equationz 1 1 1 0;");
        CHECKS.dueError(SYNTAX, "numbers 9 2;", "zequation 1 1 1 0;");
        CHECKS.dueError(SYNTAX, "numbers 9 2;", "aequation 1 1 1 0;");
        CHECKS.dueError(SYNTAX, "numbers 9 2;", "equationa 1 1 1 0;");
        CHECKS.dueError(SYNTAX, "numbers 9 2;", "dolour 1 0;");
        CHECKS.dueError(SYNTAX, "numbers 9 2;", "equatio 1 1 1 0;");
        CHECKS.dueError(SYNTAX, "numbers 9 2;equation", "`1 1 1 0;");
        CHECKS.dueError(SYNTAX, "numbers 9 2;equation", "{1 1 1 0;");
        CHECKS.dueError(SYNTAX, "numbers 9 2;equation ", "/1 1 1 0;");
        CHECKS.dueError(SYNTAX, "numbers 9 2;equation ", ":1 1 1 0;");
        CHECKS.dueError(SYNTAX, "   ", ";");
        CHECKS.dueError(SYNTAX, "numbers ", ";");
        CHECKS.dueError(SYNTAX, "numbers", "");
        CHECKS.dueError(SYNTAX, "numbers   ", "");
        CHECKS.dueError(SYNTAX, "numbers 9 ", ";");
        CHECKS.dueError(SYNTAX, "numbers 9 2", "");
        CHECKS.dueError(SYNTAX, "numbers 9 2  ", "");
        CHECKS.dueError(SYNTAX, "numbers 9 2 ", "2;");
        CHECKS.dueError(SYNTAX, "numbers ", "-9 2;");
        CHECKS.dueError(SYNTAX, "numbers 9", "\t2;");
        CHECKS.dueError(SYNTAX, "numbers 9 2;", ";");
        CHECKS.dueError(SYNTAX, "numbers 9 2;", "numbers 9 2;");
        CHECKS.dueError(SYNTAX, "numbers 9 2;", "fixed;");
        CHECKS.dueError(SYNTAX, "numbers 9 2; ", "\u00e4");
        CHECKS.dueError(SYNTAX, "numbers 9 2; ", "\0");
        CHECKS.dueError(SYNTAX, "numbers 9 2;equation 1 1 1 ", ";");
        CHECKS.dueError(SYNTAX, "numbers 9 2;equation 1 1 1 ", "+1;");
        CHECKS.dueError(SYNTAX, "numbers 9 2;equation 1 1 1 -", "-1;");
        CHECKS.dueError(SYNTAX, "numbers 9 2;equation 1 1 ", "-1 1;");
        CHECKS.dueError(SYNTAX, "numbers 9 2;equation 1 1 1 0 ", "distinc;");
        CHECKS.dueError(SYNTAX, "numbers 9 2;equation 1 1 1 0 ", "distinctt;");
        CHECKS.dueError(SYNTAX, "numbers 9 2;equation 1 1 1 0 distinct ", "distinct;");
        CHECKS.dueError(SYNTAX, "numbers 9 2;equation 1 1 1 0", "");
        CHECKS.dueError(SYNTAX, "numbers 9 2;progression ", ";");
        CHECKS.dueError(SYNTAX, "numbers 9 2;progression 3 ", "distinct;");
        CHECKS.dueError(SYNTAX, "numbers 9 2;colour 1 0 ", "distinct;");
        CHECKS.dueError(SYNTAX, "numbers 9 2;colour 1 0 fixed ", "fixed;");
        CHECKS.dueError(SYNTAX, "numbers 9 2;colour 1", ";");
        CHECKS.dueError(SYNTAX, "numbers 9 2;weight ", ";");
        CHECKS.dueError(SYNTAX, "numbers 9 2;weight 1;", "weight 1;");
        CHECKS.dueError(SYNTAX, "numbers 9 2;weight 1;progression 3;   ", "weight 99999;");
        CHECKS.dueError(SYNTAX, "numbers 9 2;weight ", "-1;");
        CHECKS.dueError(SYNTAX, "numbers 9 2;weight 1+", ";");
        CHECKS.dueError(SYNTAX, "numbers 9 2;weight 1 ", "1;");
        CHECKS.dueError(SYNTAX, "numbers 9 2;weight ", "n;");
        CHECKS.dueError(SYNTAX, "numbers 9 2;weight (1", ";");
        CHECKS.dueError(SYNTAX, "numbers 9 2;weight 1", ");");
        CHECKS.dueError(SYNTAX, "numbers 9 2;weight (", ");");
        CHECKS.dueError(SYNTAX, "numbers 9 2;weight 2*(rule+largest", "");
        CHECKS.dueError(SYNTAX, "numbers 9 2;weight 2", "%2;");
        CHECKS.dueError(SYNTAX, "numbers 9 2;weight ((((1)))", ";");
        CHECKS.dueError(SYNTAX, "numbers 9 2;weight ((((1 ", "(1;");
    }

    private static void rangeErrors() {
        CHECKS.dueError(RANGE, "numbers ", "0 2;");
        CHECKS.dueError(RANGE, "numbers ", "41 9;");
        CHECKS.dueError(RANGE, "numbers ", "41");
        CHECKS.dueError(RANGE, "numbers 40 ", "0;");
        CHECKS.dueError(RANGE, "numbers 40 ", "5;");
        CHECKS.dueError(RANGE, "numbers 40   ", "00000000000005 ;");
        CHECKS.dueError(RANGE, "numbers ", "4294967297 2;");
        CHECKS.dueError(RANGE, "numbers ", "18446744073709551617 2;");
        CHECKS.dueError(RANGE, "numbers ", "100000000000000000000000000000000000000000000000000000000000001 2;");
        CHECKS.dueError(RANGE, "numbers 9 2;equation ", "0 1 1 0;");
        CHECKS.dueError(RANGE, "numbers 9 2;equation 1 ", "10 1 0;");
        CHECKS.dueError(RANGE, "numbers 9 2;equation 1 1 ", "0 -100;");
        CHECKS.dueError(RANGE, "numbers 9 2;equation 1 1 1 ", "100;");
        CHECKS.dueError(RANGE, "numbers 9 2;equation 1 1 1 - ", "100;");
        CHECKS.dueError(RANGE, "numbers 9 2;progression ", "2;");
        CHECKS.dueError(RANGE, "numbers 9 2;progression ", "7;");
        CHECKS.dueError(RANGE, "numbers 9 2;colour ", "0 0;");
        CHECKS.dueError(RANGE, "numbers 9 2;colour ", "10 0;");
        CHECKS.dueError(RANGE, "numbers 9 2;colour 9 ", "2;");
        CHECKS.dueError(RANGE, "numbers 9 2;weight ", "10000;");
        CHECKS.dueError(RANGE, "numbers 9 2;weight 1*(2+", "0010000 x");
    }

    private static void ruleErrors() {
        CHECKS.dueError(MANY, FOUR, "progression 3;");
        CHECKS.dueError(MANY, FOUR + "colour 1 0;weight 1;  ", "equation 0 0 0;");
        CHECKS.dueError(MANY, FOUR, "progression");
        CHECKS.dueError(SYNTAX, FOUR, "progressions 3;");
        CHECKS.dueError(SYNTAX, FOUR + "colour 1 0 ", "progression 3;");
    }

    private static void depthErrors() {
        CHECKS.dueError(DEEP, "numbers 9 2;weight ((((", "(1)))));");
        CHECKS.dueError(DEEP, "numbers 9 2;weight ((((", "(");
        CHECKS.dueError(DEEP, "numbers 9 2;weight (1+(2*(3-(4/ ", "(5)))));");
        CHECKS.dueError(DEEP, "numbers 9 2;weight ((((1))))*((((2*", "(1)))));");
        CHECKS.dueError(SYNTAX, "numbers 9 2;weight ((((", ")");
    }

    private static void errorsLeaveData() {
        SumColouring x = Checks.loaded("numbers 6 3;progression 3;colour 1 2 fixed;colour 2 1;weight largest;");
        x.setColour(3, 0);
        long before = x.checksum();
        CHECKS.due("load with an error", Checks.load(x, "numbers 9 2;equation 1 1 1 0;colour 1 0;weight 7;colour 10 0;"), RANGE);
        CHECKS.due("checksum after an error", x.checksum(), before);
        CHECKS.due("n after an error", x.numberCount(), 6);
        CHECKS.due("k after an error", x.colourCount(), 3);
        CHECKS.due("rules after an error", x.ruleCount(), 1);
        CHECKS.due("solutions after an error", x.solutions(0), 6);
        CHECKS.due("picture after an error", Checks.picture(x), "Cba...");
        x.setColour(2, 2);
        x.setColour(3, 2);
        CHECKS.due("the weight after an error", x.conflict(0, 4), 3);
        CHECKS.due("undo after an error", x.undo(), 3);
    }

    private static void errorOffsets() {
        SumColouring x = new SumColouring();
        Checks.load(x, "numbers 99 2;");
        CHECKS.due("errorOffset of an error", x.errorOffset(), 8);
        CHECKS.dueNoArgument("load(1)", () -> x.load(1));
        CHECKS.due("errorOffset after a throw", x.errorOffset(), 8);
        Checks.load(x, "numbers 9 2;");
        CHECKS.due("errorOffset after a good load", x.errorOffset(), -1);
        Checks.load(x, "numbers 9 2;x");
        CHECKS.due("errorOffset of the latest error", x.errorOffset(), 12);
        x.undo();
        CHECKS.due("errorOffset after undo", x.errorOffset(), 12);
        CHECKS.due("n after undo", x.numberCount(), 0);
    }
}
