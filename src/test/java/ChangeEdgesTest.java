import java.math.BigInteger;
import java.util.ArrayDeque;
import java.util.NoSuchElementException;

/** The sentences of "What it is" and "Changes", and promises 1, 25 and 26, with a test of its own for each one. */
public final class ChangeEdgesTest {
    private static final Checks CHECKS = new Checks();
    private static final String RICH = "numbers 9 3;progression 3;equation 1 1 1 0;weight largest+colour;"
        + "colour 1 0;colour 2 1 fixed;colour 3 0;colour 5 0;colour 6 2;";
    private static final String FULL = "numbers 3 3;progression 3;colour 1 0 fixed;colour 2 0;colour 3 1;";

    /** A call on an object. */
    private interface Use {
        long call(SumColouring x);
    }

    public static void main(String[] args) {
        newObject();
        calls512();
        changesWithoutEffect();
        changesWithEffect();
        noChanges();
        latestEight();
        latestFirst();
        beforeTheFirstLoad();
        firstException();
        refusedCalls();
        undoOfEach();
        bufferAndOffset();
        undoAnswers();
        checksumOrder();
        checksumOverflow();
        CHECKS.finish();
    }

    private static void newObject() {
        CHECKS.of(1, "Creates an object without numbers, with an empty input buffer.");
        SumColouring x = new SumColouring();
        CHECKS.due("the state", Checks.state(x), "n 0 k 0  weight 0 gain -1000000 sum 0 error -1");
        CHECKS.dueNoArgument("load(1)", () -> x.load(1));
        CHECKS.due("append", x.append(0x20202020, 0x20202020, 0x20202020, 0x20202020, 0x20202020), 20);
        CHECKS.due("load(20)", x.load(20), SumColouring.SYNTAX_ERROR);
        CHECKS.due("errorOffset", x.errorOffset(), 20);
        // Objects know nothing of one another.
        SumColouring other = Checks.loaded(RICH);
        CHECKS.due("the state after another object's load", Checks.state(x), "n 0 k 0  weight 0 gain -1000000 sum 0 error 20");
        CHECKS.due("the other one's numbers", other.numberCount(), 9);
        CHECKS.due("undo", x.undo(), -1);
    }

    private static void calls512() {
        CHECKS.of(0, "An object is used for at most 512 calls after it has been made; what later calls answer is free.");
        SumColouring x = new SumColouring();
        for (int i = 0; i < 128; i++) {
            // Four calls each time; the text is "numbers 1d 2;".
            int n = 10 + i % 10;
            CHECKS.due("append " + i, x.append(0x6e756d62, 0x65727320, 0x31302032 + (n - 10) * 0x10000, 0x3b202020, 0x20202020), 20);
            CHECKS.due("load " + i, x.load(20), 0);
            CHECKS.due("setColour " + i, x.setColour(n, 1), -1);
            CHECKS.due("count " + i, x.count(-1), n - 1);
        }
        SumColouring full = new SumColouring();
        for (int i = 0; i < 30; i++) {
            CHECKS.due("append " + i, full.append(0x20202020, 0x20202020, 0x20202020, 0x20202020, 0x20202020), 20 * (i + 1));
        }
        for (int i = 30; i < 512; i++) {
            CHECKS.due("append " + i + " to a full buffer", full.append(-1, -1, -1, -1, -1), -1);
        }
        // 9 appends and a load, 3 calls, 5 calls 99 times, and 4 calls at last: the same calls always get the same answers.
        SumColouring y = Checks.loaded("numbers 40 4;progression 3;equation 1 1 1 0;equation 2 1 2 1;equation 1 2 3 4 distinct;"
            + "weight largest*(rule+1)-colour*9+7;colour 40 3 fixed;colour 1 0;colour 2 0;colour 4 0;");
        int longest = y.longest(3000);
        int gain = y.bestGain();
        int trials = y.canExtend(9, 3000);
        for (int i = 0; i < 99; i++) {
            CHECKS.due("longest " + i, y.longest(3000), longest);
            CHECKS.due("extend " + i, y.extend(9, 3000), trials);
            CHECKS.holds("repair " + i, y.repair(10) > 0);
            CHECKS.due("undo " + i, y.undo(), 2);
            CHECKS.due("undo " + i, y.undo(), 1);
        }
        CHECKS.due("n", y.numberCount(), 40);
        CHECKS.due("k", y.colourCount(), 4);
        CHECKS.due("rules", y.ruleCount(), 4);
        CHECKS.due("the last call", y.bestGain(), gain);
    }

    private static void dueChange(String what, String text, Use use, boolean effect) {
        SumColouring x = Checks.loaded(text);
        String before = Checks.state(x);
        use.call(x);
        CHECKS.due("an effect of " + what, Checks.asLong(!Checks.state(x).equals(before)), Checks.asLong(effect));
        CHECKS.due("undo of " + what, x.undo(), 1);
        CHECKS.due("the state after undo of " + what, Checks.state(x), before);
        CHECKS.due("undo of the load before " + what, x.undo(), 0);
    }

    private static void changesWithoutEffect() {
        CHECKS.of(0, "The changing methods are load (when it succeeds), setColour, setFixed, swapColours, extend (when its search succeeds) and repair; each such call that does not throw an exception is a change, also if all data stay as they were.");
        dueChange("setColour as it was", FULL, x -> x.setColour(2, 0), false);
        dueChange("setColour of the last number as it was", FULL, x -> x.setColour(3, 1), false);
        dueChange("setColour none as it was", "numbers 3 3;", x -> x.setColour(1, -1), false);
        dueChange("setFixed true as it was", FULL, x -> Checks.asLong(x.setFixed(1, true)), false);
        dueChange("setFixed false as it was", FULL, x -> Checks.asLong(x.setFixed(2, false)), false);
        dueChange("setFixed false without a colour", "numbers 3 3;", x -> Checks.asLong(x.setFixed(3, false)), false);
        dueChange("swapColours of one colour", FULL, x -> x.swapColours(1, 1), false);
        dueChange("swapColours of one colour without numbers", FULL, x -> x.swapColours(2, 2), false);
        dueChange("swapColours of two colours without numbers", "numbers 3 3;", x -> x.swapColours(0, 1), false);
        dueChange("extend at once", FULL, x -> x.extend(3, 1), false);
        dueChange("extend to 1 at once", FULL, x -> x.extend(1, 3000), false);
        dueChange("repair without a gain", FULL, x -> x.repair(10), false);
        dueChange("repair without a colour", "numbers 3 3;", x -> x.repair(1), false);
        dueChange("load of the same text", FULL, x -> Checks.load(x, FULL), false);
        SumColouring empty = new SumColouring();
        CHECKS.due("repair of a new object", empty.repair(1), 0);
        CHECKS.due("undo of it", empty.undo(), 0);
        CHECKS.due("nothing is left", empty.undo(), -1);
    }

    private static void changesWithEffect() {
        CHECKS.of(0, "The changing methods are load (when it succeeds), setColour, setFixed, swapColours, extend (when its search succeeds) and repair;");
        dueChange("load", RICH, x -> Checks.load(x, FULL), true);
        dueChange("load of the smallest text", RICH, x -> Checks.load(x, "numbers 1 1;"), true);
        dueChange("setColour", RICH, x -> x.setColour(1, 2), true);
        dueChange("setColour none", RICH, x -> x.setColour(1, -1), true);
        dueChange("setColour of a number without one", RICH, x -> x.setColour(9, 0), true);
        dueChange("setFixed true", RICH, x -> Checks.asLong(x.setFixed(6, true)), true);
        dueChange("setFixed false", RICH, x -> Checks.asLong(x.setFixed(2, false)), true);
        dueChange("swapColours", RICH, x -> x.swapColours(1, 0), true);
        dueChange("extend", RICH, x -> x.extend(4, 9), true);
        dueChange("repair", RICH, x -> x.repair(1), true);
        dueChange("repair of two steps", "numbers 9 2;progression 3;colour 1 0;colour 2 0;colour 3 0;colour 7 1;colour 8 1;colour 9 1;", x -> x.repair(2), true);
    }

    private static void noChanges() {
        CHECKS.of(0, "load (when it succeeds)");
        dueNoChange("a load with an error", x -> Checks.load(x, "numbers 9 2;?"));
        dueNoChange("a load of nothing", x -> x.load(0));
        dueNoChange("append", x -> x.append(0, 0, 0, 0, 0));
        CHECKS.of(0, "extend (when its search succeeds)");
        String full = "numbers 5 2;equation 1 1 1 0;";
        SumColouring y = Checks.loaded(full);
        CHECKS.due("an extend that fails", y.extend(5, 3000), -1);
        CHECKS.due("an extend that is given up", y.extend(5, 3), -2);
        CHECKS.due("undo takes the load back", y.undo(), 0);
        CHECKS.of(0, "The changing methods are load (when it succeeds), setColour, setFixed, swapColours, extend (when its search succeeds) and repair;");
        dueNoChange("all that reads", x -> Checks.state(x).length());
        dueNoChange("canExtend", x -> x.canExtend(9, 3000));
        dueNoChange("longest", x -> x.longest(3000));
        dueNoChange("count and isFixed", x -> x.count(-1) + Checks.asLong(x.isFixed(2)));
    }

    private static void dueNoChange(String what, Use use) {
        SumColouring x = Checks.loaded(RICH);
        x.setColour(9, 2);
        use.call(x);
        CHECKS.due("undo after " + what, x.undo(), 1);
        CHECKS.due("colour of 9 after undo", x.colour(9), -1);
        use.call(x);
        CHECKS.due("undo of the load after " + what, x.undo(), 0);
        CHECKS.due("nothing is left after " + what, x.undo(), -1);
    }

    /** Changes and undos of one object beside a list of its states, of which the last 8 can be had back. */
    private static final class Past {
        private final SumColouring x = new SumColouring();
        private final ArrayDeque<String> states = new ArrayDeque<>();
        private int made = 0;

        void change() {
            states.addLast(Checks.state(x));
            if (states.size() > 8) {
                states.removeFirst();
            }
            if (x.numberCount() == 0 || made % 11 == 10) {
                Checks.load(x, "numbers " + (20 + made % 20) + " 4;progression 3;weight " + made + ";colour 20 0;");
            } else {
                int number = 1 + made * 7 % 19;
                x.setColour(number, (x.colour(number) + 2) % 4);
            }
            made++;
        }

        void undo() {
            boolean none = states.isEmpty();
            String due = none ? Checks.state(x) : states.removeLast();
            CHECKS.due("undo after " + made + " changes", x.undo(), none ? -1 : states.size());
            CHECKS.due("the state after undo, " + made + " changes made", Checks.state(x), due);
        }
    }

    private static void latestEight() {
        CHECKS.of(0, "The latest 8 changes that have not been undone can be undone, the latest one first.");
        for (int changes = 0; changes <= 20; changes++) {
            Past past = new Past();
            for (int i = 0; i < changes; i++) {
                past.change();
            }
            for (int i = 0; i < 10; i++) {
                past.undo();
            }
        }
    }

    private static void latestFirst() {
        CHECKS.of(0, "The latest 8 changes that have not been undone can be undone, the latest one first.");
        for (int changes = 1; changes <= 10; changes++) {
            for (int undos = 1; undos <= 9; undos++) {
                Past past = new Past();
                for (int round = 0; round < 6; round++) {
                    for (int i = 0; i < changes; i++) {
                        past.change();
                    }
                    for (int i = 0; i < undos; i++) {
                        past.undo();
                    }
                }
            }
        }
    }

    private static void beforeTheFirstLoad() {
        CHECKS.of(0, "Before the first successful load there are no numbers, colours and rules: n and k are 0.");
        SumColouring x = new SumColouring();
        dueNothing("at first", x);
        Checks.load(x, "numbers 5 2;progression 3;colour 1 1;x");
        dueNothing("after a load with an error", x);
        Checks.load(x, "numbers 5 2;progression 3;colour 1 1;");
        CHECKS.due("n after a load", x.numberCount(), 5);
        CHECKS.due("undo of the load", x.undo(), 0);
        dueNothing("after undo of the load", x);
        CHECKS.due("repair as a change", x.repair(1), 0);
        dueNothing("after repair", x);
        CHECKS.due("undo of the repair", x.undo(), 0);
        dueNothing("after undo of the repair", x);
    }

    private static void dueNothing(String when, SumColouring x) {
        CHECKS.due("n " + when, x.numberCount(), 0);
        CHECKS.due("k " + when, x.colourCount(), 0);
        CHECKS.due("rules " + when, x.ruleCount(), 0);
        CHECKS.due("count(-1) " + when, x.count(-1), 0);
        CHECKS.due("conflicts " + when, x.conflicts() + x.totalWeight(), 0);
        CHECKS.due("longest " + when, x.longest(3000), 0);
        CHECKS.due("bestGain " + when, x.bestGain(), -1000000);
        CHECKS.due("checksum " + when, x.checksum(), 0);
        CHECKS.dueNoNumber("solutions(0) " + when, () -> x.solutions(0));
        CHECKS.dueNoNumber("colour(1) " + when, () -> x.colour(1));
        CHECKS.dueNoNumber("count(0) " + when, () -> x.count(0));
        CHECKS.dueNoNumber("setColour(1, 0) " + when, () -> x.setColour(1, 0));
        CHECKS.dueNoNumber("setColour(1, -1) " + when, () -> x.setColour(1, -1));
        CHECKS.dueNoNumber("setFixed(1, false) " + when, () -> Checks.asLong(x.setFixed(1, false)));
        CHECKS.dueNoNumber("swapColours(0, 0) " + when, () -> x.swapColours(0, 0));
        CHECKS.dueNoNumber("extend(1, 1) " + when, () -> x.extend(1, 1));
        CHECKS.dueNoNumber("extend(0, 1) " + when, () -> x.extend(0, 1));
    }

    private static void firstException() {
        CHECKS.of(0, "If several exceptions apply to a call, the one that is listed first with the method is thrown.");
        SumColouring x = Checks.loaded(FULL);
        CHECKS.dueThrow("conflict(0, 5) without conflicts", NoSuchElementException.class, () -> x.conflict(0, 5));
        CHECKS.dueThrow("conflict(-1, -1)", NoSuchElementException.class, () -> x.conflict(-1, -1));
        for (int to : new int[] {0, 4}) {
            for (int trials : new int[] {0, 3001}) {
                CHECKS.dueNoNumber("canExtend(" + to + ", " + trials + ")", () -> x.canExtend(to, trials));
                CHECKS.dueNoNumber("extend(" + to + ", " + trials + ")", () -> x.extend(to, trials));
            }
        }
        CHECKS.dueNoNumber("setColour(1, 3) of a fixed number", () -> x.setColour(1, 3));
        CHECKS.dueNoNumber("setColour(1, -2) of a fixed number", () -> x.setColour(1, -2));
        CHECKS.dueNoNumber("setColour(4, 3)", () -> x.setColour(4, 3));
        CHECKS.dueNoNumber("setFixed(4, true)", () -> Checks.asLong(x.setFixed(4, true)));
        CHECKS.dueNoNumber("setFixed(0, true)", () -> Checks.asLong(x.setFixed(0, true)));
        CHECKS.dueNoNumber("extend(1, 0) of a new object", () -> new SumColouring().extend(1, 0));
        CHECKS.dueThrow("conflict(0, 9) of a new object", NoSuchElementException.class, () -> new SumColouring().conflict(0, 9));
    }

    private static void refusedCalls() {
        CHECKS.of(0, "A method that throws an exception changes nothing.");
        dueRefused("load(-1)", x -> x.load(-1));
        dueRefused("load(21)", x -> x.load(21));
        dueRefused("solutions", x -> x.solutions(2));
        dueRefused("colour", x -> x.colour(10));
        dueRefused("isFixed", x -> Checks.asLong(x.isFixed(0)));
        dueRefused("count", x -> x.count(3));
        dueRefused("conflict without one", x -> x.conflict(99, 0));
        dueRefused("conflict with a wrong what", x -> x.conflict(0, 5));
        dueRefused("conflictsOf", x -> x.conflictsOf(0));
        dueRefused("allowed", x -> x.allowed(10));
        dueRefused("canExtend to a wrong number", x -> x.canExtend(10, 9));
        dueRefused("canExtend with wrong trials", x -> x.canExtend(9, 0));
        dueRefused("longest", x -> x.longest(3001));
        dueRefused("setColour of a wrong number", x -> x.setColour(10, 0));
        dueRefused("setColour to a wrong colour", x -> x.setColour(1, 3));
        dueRefused("setColour of a fixed number", x -> x.setColour(2, 0));
        dueRefused("setFixed of a wrong number", x -> Checks.asLong(x.setFixed(0, true)));
        dueRefused("setFixed without a colour", x -> Checks.asLong(x.setFixed(7, true)));
        dueRefused("swapColours of a wrong one", x -> x.swapColours(3, 0));
        dueRefused("swapColours of a wrong other", x -> x.swapColours(0, -1));
        dueRefused("extend to a wrong number", x -> x.extend(0, 9));
        dueRefused("extend with wrong trials", x -> x.extend(9, 3001));
        dueRefused("repair of 0", x -> x.repair(0));
        dueRefused("repair of 11", x -> x.repair(11));
    }

    /** The buffer, the error offset and the changes stay as they are, and so does all that can be seen. */
    private static void dueRefused(String what, Use use) {
        SumColouring x = Checks.loaded(RICH);
        x.setColour(9, 2);
        Checks.load(x, "numbers 0 2;");
        x.setColour(6, 0);
        CHECKS.holds("some conflicts before " + what, x.conflicts() > 0);
        x.append(0x6e756d62, 0x65727320, 0x37203320, 0x20202020, 0x2020203b);
        String before = Checks.state(x);
        CHECKS.holds(what + " throws", Checks.outcome(() -> use.call(x)).startsWith("throws "));
        CHECKS.due("the state after " + what, Checks.state(x), before);
        CHECKS.due("the error offset after " + what, x.errorOffset(), 8);
        CHECKS.due("undo after " + what, x.undo(), 2);
        CHECKS.due("colour of 6 after it", x.colour(6), 2);
        CHECKS.due("append after " + what, x.append(0, 0, 0, 0, 0), 40);
        CHECKS.due("load after " + what, x.load(20), 0);
        CHECKS.due("n after " + what, x.numberCount(), 7);
    }

    private static void undoOfEach() {
        CHECKS.of(25, "Undoes the latest change that has not been undone.");
        SumColouring x = Checks.loaded(RICH);
        String[] states = new String[7];
        Use[] uses = {y -> y.setColour(1, 2), y -> Checks.asLong(y.setFixed(6, true)), y -> y.swapColours(0, 2), y -> y.extend(4, 9),
            y -> y.repair(10), y -> Checks.load(y, "numbers 4 2;progression 4;colour 1 1 fixed;weight 7;"), y -> y.setColour(4, 0)};
        for (int i = 0; i < uses.length; i++) {
            states[i] = Checks.state(x);
            uses[i].call(x);
        }
        for (int i = uses.length - 1; i >= 0; i--) {
            CHECKS.due("undo of the change " + i, x.undo(), i + 1);
            CHECKS.due("the state before the change " + i, Checks.state(x), states[i]);
        }
        CHECKS.due("undo of the load", x.undo(), 0);
        CHECKS.due("n", x.numberCount(), 0);
        CHECKS.due("nothing is left", x.undo(), -1);
    }

    private static void bufferAndOffset() {
        CHECKS.of(25, "The input buffer and the error offset are not affected.");
        SumColouring x = Checks.loaded(RICH);
        Checks.load(x, "numbers 0 2;");
        x.setColour(1, 2);
        x.append(0x6e756d62, 0x65727320, 0x37203320, 0x20202020, 0x2020203b);
        CHECKS.due("undo", x.undo(), 1);
        CHECKS.due("the error offset after undo", x.errorOffset(), 8);
        CHECKS.due("undo of the load", x.undo(), 0);
        CHECKS.due("the error offset after undo of the load", x.errorOffset(), 8);
        CHECKS.due("undo of nothing", x.undo(), -1);
        CHECKS.due("the error offset after undo of nothing", x.errorOffset(), 8);
        CHECKS.due("the buffer's length", x.append(0x20202020, 0x20202020, 0x20202020, 0x20202020, 0x20202020), 40);
        CHECKS.due("the buffer's text", x.load(40), 0);
        CHECKS.due("its n", x.numberCount(), 7);
        CHECKS.due("undo of it", x.undo(), 0);
        CHECKS.due("the error offset of the latest load", x.errorOffset(), -1);
        CHECKS.dueNoArgument("the buffer stays empty", () -> x.load(1));
    }

    private static void undoAnswers() {
        CHECKS.of(25, "Returns the number of changes that can still be undone; -1 if there was none to undo, and nothing changes then.");
        SumColouring x = new SumColouring();
        for (int i = 0; i < 3; i++) {
            CHECKS.due("undo of a new object", x.undo(), -1);
        }
        Checks.load(x, FULL);
        for (int i = 0; i < 7; i++) {
            x.setColour(2, i % 3);
        }
        for (int left = 7; left >= 0; left--) {
            CHECKS.due("undo", x.undo(), left);
        }
        CHECKS.due("n", x.numberCount(), 0);
        Checks.load(x, FULL);
        for (int i = 0; i < 8; i++) {
            x.setColour(2, i % 3);
        }
        for (int left = 7; left >= 0; left--) {
            CHECKS.due("undo", x.undo(), left);
        }
        String before = Checks.state(x);
        for (int i = 0; i < 3; i++) {
            CHECKS.due("undo when none is left", x.undo(), -1);
            CHECKS.due("the state after it", Checks.state(x), before);
        }
        CHECKS.due("the first of nine changes stays", Checks.picture(x), "Aab");
        x.setColour(2, 2);
        CHECKS.due("undo after a new change", x.undo(), 0);
    }

    private static long summed(long... numbers) {
        BigInteger sum = BigInteger.ZERO;
        for (long number : numbers) {
            sum = sum.multiply(BigInteger.valueOf(31)).add(BigInteger.valueOf(number));
        }
        return sum.longValue();
    }

    private static void checksumOrder() {
        CHECKS.of(26, "for each number from 1 its colour (-1 if it has none) and 1 if it is fixed and 0 if not; conflicts(); totalWeight().");
        CHECKS.due("without numbers", new SumColouring().checksum(), 0);
        CHECKS.due("one number", Checks.loaded("numbers 1 1;").checksum(), summed(-1, 0, 0, 0));
        CHECKS.due("one number with a colour", Checks.loaded("numbers 1 4;colour 1 3;").checksum(), summed(3, 0, 0, 0));
        CHECKS.due("one fixed number", Checks.loaded("numbers 1 4;colour 1 0 fixed;").checksum(), summed(0, 1, 0, 0));
        CHECKS.due("two conflicts of weight 999", Checks.loaded("numbers 1 1;equation 1 1 1 1;equation 1 1 2 0;weight 999;colour 1 0;").checksum(),
            summed(0, 0, 2, 1998));
        CHECKS.due("FULL", Checks.loaded(FULL).checksum(), summed(0, 1, 0, 0, 1, 0, 0, 0));
        SumColouring x = Checks.loaded(RICH);
        long before = x.checksum();
        CHECKS.of(26, "Returns the checksum.");
        CHECKS.due("again", x.checksum(), before);
        CHECKS.due("it is no change", x.undo(), 0);
    }

    private static void checksumOverflow() {
        CHECKS.of(26, "It starts at 0; each number n in the following order replaces it by 31 * checksum + n, wrapping around on overflow of a long:");
        for (int n : new int[] {5, 6, 7, 20, 40}) {
            for (int c = -1; c < 4; c++) {
                SumColouring x = Checks.loaded("numbers " + n + " 4;");
                long[] numbers = new long[2 * n + 2];
                for (int v = 1; v <= n; v++) {
                    x.setColour(v, c);
                    boolean fixed = c >= 0 && v % 3 == 1;
                    x.setFixed(v, fixed);
                    numbers[2 * v - 2] = c;
                    numbers[2 * v - 1] = fixed ? 1 : 0;
                }
                CHECKS.due("checksum of " + n + " numbers with " + c, x.checksum(), summed(numbers));
            }
        }
        SumColouring most = Checks.loaded("numbers 40 1;" + "equation 1 1 1 20;".repeat(4) + "weight 999;");
        long[] numbers = new long[82];
        for (int v = 1; v <= 40; v++) {
            most.setColour(v, 0);
        }
        numbers[80] = 4800;
        numbers[81] = 4800 * 999;
        CHECKS.due("checksum of 4800 conflicts", most.checksum(), summed(numbers));
    }
}
