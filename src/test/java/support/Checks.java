import java.nio.charset.StandardCharsets;

/** Compares answers with what is due, prints each one that is not, and counts them. */
final class Checks {
    /** A call whose answer, or whose exception, is to be told. */
    interface Call {
        long answer();
    }

    private int wrong = 0;
    private int made = 0;

    void due(String what, long got, long want) {
        made++;
        if (got != want) {
            tell(what + " answered " + got + ", due is " + want);
        }
    }

    void due(String what, String got, String want) {
        made++;
        if (!got.equals(want)) {
            tell(what + " answered " + got + ", due is " + want);
        }
    }

    void holds(String what, boolean good) {
        made++;
        if (!good) {
            tell(what + " does not hold");
        }
    }

    void dueThrow(String what, Class<? extends RuntimeException> want, Call call) {
        due(what, outcome(call), "throws " + want.getSimpleName());
    }

    void dueNoNumber(String what, Call call) {
        dueThrow(what, IndexOutOfBoundsException.class, call);
    }

    void dueNoArgument(String what, Call call) {
        dueThrow(what, IllegalArgumentException.class, call);
    }

    void dueNoState(String what, Call call) {
        dueThrow(what, IllegalStateException.class, call);
    }

    private void tell(String line) {
        wrong++;
        System.out.println(line);
    }

    int wrong() {
        return wrong;
    }

    void finish() {
        System.out.println(made + " checks, " + wrong + " wrong");
        if (wrong != 0) {
            System.exit(1);
        }
    }

    static String outcome(Call call) {
        try {
            return Long.toString(call.answer());
        } catch (RuntimeException e) {
            return "throws " + e.getClass().getSimpleName();
        }
    }

    static long asLong(boolean b) {
        return b ? 1L : 0L;
    }

    /** Appends a text, filled up with spaces to whole calls of append; characters are bytes 0 to 255. */
    static void fill(SumColouring x, String text) {
        byte[] bytes = text.getBytes(StandardCharsets.ISO_8859_1);
        for (int i = 0; i < bytes.length; i += 20) {
            int[] w = words(bytes, i);
            x.append(w[0], w[1], w[2], w[3], w[4]);
        }
    }

    static int[] words(byte[] bytes, int from) {
        int[] w = new int[5];
        for (int j = 0; j < 20; j++) {
            int b = from + j < bytes.length ? bytes[from + j] & 0xff : ' ';
            w[j / 4] = w[j / 4] << 8 | b;
        }
        return w;
    }

    static int load(SumColouring x, String text) {
        fill(x, text);
        return x.load(text.length());
    }

    static SumColouring loaded(String text) {
        SumColouring x = new SumColouring();
        if (load(x, text) < 0) {
            System.out.println("a test's text is wrong: " + text);
            System.exit(1);
        }
        return x;
    }

    /** The colours of 1 to n as a text, '.' for none and a capital letter for a fixed colour. */
    static String picture(SumColouring x) {
        StringBuilder line = new StringBuilder();
        for (int v = 1; v <= x.numberCount(); v++) {
            int c = x.colour(v);
            line.append(c < 0 ? '.' : (char) ((x.isFixed(v) ? 'A' : 'a') + c));
        }
        return line.toString();
    }
}
