import java.nio.charset.StandardCharsets;

/** Long runs of calls with fixed seeds, each answer compared with the plain model's. */
public final class ModelTest {
    private static final Checks CHECKS = new Checks();
    private static long seed;

    private static int below(int bound) {
        seed = seed * 6364136223846793005L + 1442695040888963407L;
        return (int) ((seed >>> 33) % bound);
    }

    private static String pick(String... texts) {
        return texts[below(texts.length)];
    }

    private static String spaces() {
        return below(8) == 0 ? "  " : below(4) == 0 ? " " : "";
    }

    private static String sum(int depth) {
        StringBuilder s = new StringBuilder(term(depth));
        for (int i = below(3); i > 0; i--) {
            s.append(spaces()).append(pick("+", "-")).append(term(depth));
        }
        return s.toString();
    }

    private static String term(int depth) {
        StringBuilder s = new StringBuilder(factor(depth));
        for (int i = below(3); i > 0; i--) {
            s.append(pick("*", "/")).append(spaces()).append(factor(depth));
        }
        return s.toString();
    }

    private static String factor(int depth) {
        int kind = below(8);
        if (kind < 2 && depth < 4) {
            return "(" + sum(depth + 1) + spaces() + ")";
        }
        return kind < 4 ? Integer.toString(below(below(3) == 0 ? 10000 : 12)) : pick("rule", "largest", "colour", "largest");
    }

    private static String statement(int n, int k) {
        switch (below(8)) {
            case 0:
            case 1:
                return "equation " + (1 + below(3)) + " " + (1 + below(3)) + " " + (1 + below(3)) + " "
                    + pick("", "", "-") + below(below(2) == 0 ? 3 : 25) + pick("", "", " distinct", "distinct") + spaces() + ";";
            case 2:
                return "progression" + spaces() + (3 + below(4)) + ";";
            default:
                return "colour" + spaces() + (1 + below(n)) + " " + below(k) + pick("", "", "fixed", " fixed") + ";";
        }
    }

    private static String setup(int mostNumbers) {
        int n = 1 + below(mostNumbers);
        int k = 1 + below(4);
        StringBuilder s = new StringBuilder(spaces()).append("numbers ").append(n).append(' ').append(k).append(spaces()).append(';');
        int weightAt = below(8);
        int statements = below(14);
        for (int i = 0; i < statements; i++) {
            if (i == weightAt) {
                s.append("weight ").append(sum(0)).append(';');
            }
            s.append(spaces()).append(statement(n, k));
        }
        return s.append(spaces()).toString();
    }

    private static String spoil(String text) {
        StringBuilder s = new StringBuilder(text);
        for (int i = 1 + below(2); i > 0 && s.length() > 0; i--) {
            int at = below(s.length());
            switch (below(5)) {
                case 0:
                    s.deleteCharAt(at);
                    break;
                case 1:
                    s.insert(at, pick("(", ")", ";", "-", "weight", "0", "7", "99", " ", "((((", "colour", "fixed", "A", "\u00e9", "\n", "\0"));
                    break;
                case 2:
                    s.setLength(at);
                    break;
                case 3:
                    s.setCharAt(at, (char) below(256));
                    break;
                default:
                    s.append(pick("progression 3;", "equation 1 1 1 0;", "weight 1;", "x", "colour 41 0;"));
                    break;
            }
        }
        return s.toString();
    }

    private static void loadBoth(String run, SumColouring x, PlainModel y, String text) {
        byte[] bytes = text.getBytes(StandardCharsets.ISO_8859_1);
        boolean fits = true;
        for (int i = 0; i < bytes.length; i += 20) {
            int[] w = Checks.words(bytes, i);
            int got = x.append(w[0], w[1], w[2], w[3], w[4]);
            CHECKS.due(run + " append", got, y.append(w));
            fits = fits && got >= 0;
        }
        int length = fits ? text.length() : 600;
        int wrongLength = pick("a", "b").equals("a") ? -1 - below(3) : 601 + below(9);
        if (below(10) == 0) {
            same(run + " load " + wrongLength, () -> x.load(wrongLength), () -> y.load(wrongLength));
        }
        same(run + " load \"" + text + "\"", () -> x.load(length), () -> y.load(length));
        CHECKS.due(run + " errorOffset of \"" + text + "\"", x.errorOffset(), y.errorOffset());
    }

    private static void same(String what, Checks.Call got, Checks.Call want) {
        CHECKS.due(what, Checks.outcome(got), Checks.outcome(want));
    }

    private static void call(String run, SumColouring x, PlainModel y, int trialsMost) {
        int v = below(12) == 0 ? below(50) - 4 : 1 + below(Math.max(1, y.numberCount()));
        int c = below(12) == 0 ? below(8) - 3 : below(Math.max(1, y.colourCount()) + 1) - 1;
        int e = below(15) == 0 ? below(8) - 3 : below(Math.max(1, y.colourCount()));
        int t = below(15) == 0 ? pick("a", "b").equals("a") ? 3001 : 0 : 1 + below(trialsMost);
        int i = below(below(4) == 0 ? 40 : 4) - (below(10) == 0 ? 3 : 0);
        int what = below(10) == 0 ? below(9) - 2 : below(5);
        boolean b = below(3) != 0;
        String told = run + " (v " + v + ", c " + c + ", e " + e + ", t " + t + ", i " + i + ", what " + what + ", b " + b + ") call ";
        int kind = below(24);
        switch (kind) {
            case 0: same(told + "solutions", () -> x.solutions(i), () -> y.solutions(i)); break;
            case 1: same(told + "colour", () -> x.colour(v), () -> y.colour(v)); break;
            case 2: same(told + "isFixed", () -> Checks.asLong(x.isFixed(v)), () -> Checks.asLong(y.isFixed(v))); break;
            case 3: same(told + "count", () -> x.count(c), () -> y.count(c)); break;
            case 4: same(told + "conflicts", () -> x.conflicts(), () -> y.conflicts()); break;
            case 5: same(told + "totalWeight", () -> x.totalWeight(), () -> y.totalWeight()); break;
            case 6: same(told + "conflict", () -> x.conflict(i, what), () -> y.conflict(i, what)); break;
            case 7: same(told + "conflictsOf", () -> x.conflictsOf(v), () -> y.conflictsOf(v)); break;
            case 8: same(told + "allowed", () -> x.allowed(v), () -> y.allowed(v)); break;
            case 9: same(told + "canExtend", () -> x.canExtend(v, t), () -> y.canExtend(v, t)); break;
            case 10: same(told + "longest", () -> x.longest(t), () -> y.longest(t)); break;
            case 11: same(told + "bestGain", () -> x.bestGain(), () -> y.bestGain()); break;
            case 12: same(told + "setFixed", () -> Checks.asLong(x.setFixed(v, b)), () -> Checks.asLong(y.setFixed(v, b))); break;
            case 13: same(told + "swapColours", () -> x.swapColours(c, e), () -> y.swapColours(c, e)); break;
            case 14: same(told + "extend", () -> x.extend(v, t), () -> y.extend(v, t)); break;
            case 15: same(told + "repair", () -> x.repair(what), () -> y.repair(what)); break;
            case 16: same(told + "repair", () -> x.repair(i), () -> y.repair(i)); break;
            case 17: same(told + "undo", () -> x.undo(), () -> y.undo()); break;
            default: same(told + "setColour", () -> x.setColour(v, c), () -> y.setColour(v, c)); break;
        }
        same(told + kind + ", checksum", () -> x.checksum(), () -> y.checksum());
        same(told + kind + ", counts", () -> x.numberCount() * 100 + x.colourCount() * 10 + x.ruleCount(),
            () -> y.numberCount() * 100 + y.colourCount() * 10 + y.ruleCount());
    }

    private static void run(int number, int mostNumbers, int trialsMost, int calls) {
        seed = number * 7919L + 17;
        SumColouring x = new SumColouring();
        PlainModel y = new PlainModel();
        String name = "run " + number;
        for (int i = 0; i < calls; i++) {
            if (i == 3 || below(25) == 0) {
                String text = setup(mostNumbers);
                loadBoth(name + " step " + i, x, y, below(4) == 0 ? spoil(text) : text);
            }
            call(name + " step " + i, x, y, trialsMost);
        }
    }

    private static void texts(int number) {
        seed = number * 104729L + 5;
        SumColouring x = new SumColouring();
        PlainModel y = new PlainModel();
        for (int i = 0; i < 30; i++) {
            loadBoth("texts " + number, x, y, spoil(setup(40)));
        }
    }

    public static void main(String[] args) {
        for (int i = 0; i < 400 && CHECKS.wrong() == 0; i++) {
            run(i, 12, 200, 150);
        }
        for (int i = 400; i < 425 && CHECKS.wrong() == 0; i++) {
            run(i, 40, 3000, 60);
        }
        for (int i = 0; i < 300 && CHECKS.wrong() == 0; i++) {
            texts(i);
        }
        CHECKS.finish();
    }
}
