import java.nio.charset.StandardCharsets;

/** Compares answers with what is due, prints each one that is not, and counts them. */
final class Checks {
    /** A call whose answer, or whose exception, is to be told. */
    interface Call {
        long answer();
    }

    private static final Document DOCUMENT = Document.read();

    private int wrong = 0;
    private int made = 0;
    private String sentence = "";

    /** Names the words of the document that the next checks are a test of; promise 0 stands for the paragraphs before promise 1. */
    void of(int promise, String words) {
        sentence = "promise " + promise + ", \"" + words + "\": ";
        holds("that the document says this", DOCUMENT.says(promise, words));
    }

    void due(String what, long got, long want) {
        made++;
        if (got != want) {
            tell(what + " answered " + got + ", due is " + want);
        }
    }

    void due(String what, String got, String want) {
        made++;
        if (!got.equals(want)) {
            tell(what + " answered " + got + ", due is " + want);
        }
    }

    void holds(String what, boolean good) {
        made++;
        if (!good) {
            tell(what + " does not hold");
        }
    }

    void dueThrow(String what, Class<? extends RuntimeException> want, Call call) {
        due(what, outcome(call), "throws " + want.getSimpleName());
    }

    void dueNoNumber(String what, Call call) {
        dueThrow(what, IndexOutOfBoundsException.class, call);
    }

    void dueNoArgument(String what, Call call) {
        dueThrow(what, IllegalArgumentException.class, call);
    }

    void dueNoState(String what, Call call) {
        dueThrow(what, IllegalStateException.class, call);
    }

    /** A text that load takes, with so many rules. */
    void dueRules(int rules, String text) {
        SumColouring x = new SumColouring();
        due("load \"" + text + "\"", load(x, text), rules);
        due("errorOffset of \"" + text + "\"", x.errorOffset(), -1);
    }

    /** A text whose first error lies where its second part begins. */
    void dueError(int code, String before, String rest) {
        String text = before + rest;
        SumColouring x = new SumColouring();
        due("load \"" + text + "\"", load(x, text), code);
        due("errorOffset of \"" + text + "\"", x.errorOffset(), before.length());
        due("numbers after \"" + text + "\"", x.numberCount(), 0);
    }

    /** A call that throws, and leaves all that can be seen as it was. */
    void dueRefused(String what, Class<? extends RuntimeException> want, SumColouring x, Call call) {
        String before = state(x);
        dueThrow(what, want, call);
        due("the state after " + what, state(x), before);
    }

    private void tell(String line) {
        wrong++;
        System.out.println(sentence + line);
    }

    int wrong() {
        return wrong;
    }

    void finish() {
        System.out.println(made + " checks, " + wrong + " wrong");
        if (wrong != 0) {
            System.exit(1);
        }
    }

    static String outcome(Call call) {
        try {
            return Long.toString(call.answer());
        } catch (RuntimeException e) {
            return "throws " + e.getClass().getSimpleName();
        }
    }

    static long asLong(boolean b) {
        return b ? 1L : 0L;
    }

    /** Appends a text, filled up with spaces to whole calls of append; characters are bytes 0 to 255. */
    static void fill(SumColouring x, String text) {
        byte[] bytes = text.getBytes(StandardCharsets.ISO_8859_1);
        for (int i = 0; i < bytes.length; i += 20) {
            int[] w = words(bytes, i);
            x.append(w[0], w[1], w[2], w[3], w[4]);
        }
    }

    static int[] words(byte[] bytes, int from) {
        int[] w = new int[5];
        for (int j = 0; j < 20; j++) {
            int b = from + j < bytes.length ? bytes[from + j] & 0xff : ' ';
            w[j / 4] = w[j / 4] << 8 | b;
        }
        return w;
    }

    static int load(SumColouring x, String text) {
        fill(x, text);
        return x.load(text.length());
    }

    static SumColouring loaded(String text) {
        SumColouring x = new SumColouring();
        if (load(x, text) < 0) {
            System.out.println("a test's text is wrong: " + text);
            System.exit(1);
        }
        return x;
    }

    /** All that can be seen of an object without a change. */
    static String state(SumColouring x) {
        StringBuilder line = new StringBuilder();
        line.append("n ").append(x.numberCount()).append(" k ").append(x.colourCount()).append(' ').append(picture(x));
        for (int rule = 0; rule < x.ruleCount(); rule++) {
            line.append(" rule ").append(x.solutions(rule));
        }
        for (int i = 0; i < x.conflicts(); i++) {
            line.append(" conflict");
            for (int what = 0; what < 5; what++) {
                line.append(' ').append(x.conflict(i, what));
            }
        }
        for (int v = 1; v <= x.numberCount(); v++) {
            line.append(" allowed ").append(x.allowed(v)).append(" in ").append(x.conflictsOf(v));
        }
        line.append(" weight ").append(x.totalWeight()).append(" gain ").append(x.bestGain());
        return line.append(" sum ").append(x.checksum()).append(" error ").append(x.errorOffset()).toString();
    }

    /** The colours of 1 to n as a text, '.' for none ('!' if it is fixed all the same) and a capital letter for a fixed colour. */
    static String picture(SumColouring x) {
        StringBuilder line = new StringBuilder();
        for (int v = 1; v <= x.numberCount(); v++) {
            int c = x.colour(v);
            boolean fixed = x.isFixed(v);
            line.append(c < 0 ? fixed ? '!' : '.' : (char) ((fixed ? 'A' : 'a') + c));
        }
        return line.toString();
    }
}
