import java.util.ArrayList;
import java.util.LinkedHashSet;
import java.util.List;
import java.util.NoSuchElementException;
import java.util.Set;
import java.util.TreeSet;

/** What the document says, written once more as plainly as it can be, without regard to speed. */
final class PlainModel {
    /** The first error of a text. */
    private static final class Fault extends RuntimeException {
        private static final long serialVersionUID = 1L;
        final int code;
        final int offset;

        Fault(int code, int offset) {
            this.code = code;
            this.offset = offset;
        }
    }

    private interface Weight {
        long of(int rule, int largest, int colour);
    }

    private static final class Data {
        int n = 0;
        int k = 0;
        List<List<int[]>> rules = new ArrayList<>();
        Weight weight = (rule, largest, colour) -> 1;
        int[] colour = new int[41];
        boolean[] fixed = new boolean[41];

        Data copy() {
            Data other = new Data();
            other.n = n;
            other.k = k;
            other.rules = rules;
            other.weight = weight;
            other.colour = colour.clone();
            other.fixed = fixed.clone();
            return other;
        }
    }

    private String buffer = "";
    private int errorOffset = -1;
    private Data data = new Data();
    private final List<Data> past = new ArrayList<>();

    // ---- the face

    int append(int... words) {
        if (buffer.length() + 20 > 600) {
            return -1;
        }
        StringBuilder more = new StringBuilder(buffer);
        for (int w : words) {
            more.append((char) (w >>> 24)).append((char) (w >>> 16 & 255)).append((char) (w >>> 8 & 255)).append((char) (w & 255));
        }
        buffer = more.toString();
        return buffer.length();
    }

    int load(int length) {
        if (length < 0 || length > buffer.length()) {
            throw new IllegalArgumentException();
        }
        String text = buffer.substring(0, length);
        buffer = "";
        errorOffset = -1;
        try {
            Data read = new Text(text).read();
            change();
            data = read;
            return data.rules.size();
        } catch (Fault fault) {
            errorOffset = fault.offset;
            return fault.code;
        }
    }

    int errorOffset() {
        return errorOffset;
    }

    int numberCount() {
        return data.n;
    }

    int colourCount() {
        return data.k;
    }

    int ruleCount() {
        return data.rules.size();
    }

    int solutions(int rule) {
        index(rule >= 0 && rule < data.rules.size());
        return data.rules.get(rule).size();
    }

    int colour(int number) {
        index(isNumber(number));
        return data.colour[number];
    }

    boolean isFixed(int number) {
        index(isNumber(number));
        return data.fixed[number];
    }

    int count(int colour) {
        index(colour >= -1 && colour < data.k);
        int sum = 0;
        for (int v = 1; v <= data.n; v++) {
            sum += data.colour[v] == colour ? 1 : 0;
        }
        return sum;
    }

    int conflicts() {
        return conflictList(data).size();
    }

    int totalWeight() {
        return total(data);
    }

    int conflict(int index, int what) {
        List<int[]> all = conflictList(data);
        if (index < 0 || index >= all.size()) {
            throw new NoSuchElementException();
        }
        argument(what >= 0 && what <= 4);
        return all.get(index)[what];
    }

    int conflictsOf(int number) {
        index(isNumber(number));
        return conflictsWith(data, number);
    }

    int allowed(int number) {
        index(isNumber(number));
        int set = 0;
        for (int c = 0; c < data.k; c++) {
            if (isAllowed(data, number, c)) {
                set += 1 << c;
            }
        }
        return set;
    }

    int canExtend(int to, int trials) {
        index(isNumber(to));
        argument(trials >= 1 && trials <= 3000);
        return new Try(data.copy(), to, trials).outcome();
    }

    int longest(int trials) {
        argument(trials >= 1 && trials <= 3000);
        Data blank = data.copy();
        java.util.Arrays.fill(blank.colour, -1);
        Try search = new Try(blank, data.n, trials);
        search.outcome();
        return search.greatest;
    }

    int bestGain() {
        return best(data)[0];
    }

    int setColour(int number, int colour) {
        index(isNumber(number) && colour >= -1 && colour < data.k);
        state(!data.fixed[number]);
        change();
        int before = data.colour[number];
        data.colour[number] = colour;
        return before;
    }

    boolean setFixed(int number, boolean fixed) {
        index(isNumber(number));
        state(!fixed || data.colour[number] != -1);
        change();
        boolean before = data.fixed[number];
        data.fixed[number] = fixed;
        return before;
    }

    int swapColours(int one, int other) {
        index(one >= 0 && one < data.k && other >= 0 && other < data.k);
        change();
        int others = 0;
        for (int v = 1; v <= data.n; v++) {
            int before = data.colour[v];
            data.colour[v] = before == one ? other : before == other ? one : before;
            others += data.colour[v] == before ? 0 : 1;
        }
        return others;
    }

    int extend(int to, int trials) {
        index(isNumber(to));
        argument(trials >= 1 && trials <= 3000);
        Try search = new Try(data.copy(), to, trials);
        int answer = search.outcome();
        if (answer >= 0) {
            change();
            data.colour = search.on.colour;
        }
        return answer;
    }

    int repair(int most) {
        argument(most >= 1 && most <= 10);
        change();
        int made = 0;
        while (made < most && best(data)[0] > 0) {
            int[] step = best(data);
            data.colour[step[1]] = step[2];
            made++;
        }
        return made;
    }

    int undo() {
        if (past.isEmpty()) {
            return -1;
        }
        data = past.remove(past.size() - 1);
        return past.size();
    }

    long checksum() {
        long sum = 0;
        for (int v = 1; v <= data.n; v++) {
            sum = 31 * sum + data.colour[v];
            sum = 31 * sum + (data.fixed[v] ? 1 : 0);
        }
        sum = 31 * sum + conflicts();
        return 31 * sum + totalWeight();
    }

    // ---- behind the face

    private void change() {
        past.add(data.copy());
        if (past.size() > 8) {
            past.remove(0);
        }
    }

    private boolean isNumber(int number) {
        return number >= 1 && number <= data.n;
    }

    private static void index(boolean good) {
        if (!good) {
            throw new IndexOutOfBoundsException();
        }
    }

    private static void argument(boolean good) {
        if (!good) {
            throw new IllegalArgumentException();
        }
    }

    private static void state(boolean good) {
        if (!good) {
            throw new IllegalStateException();
        }
    }

    private static boolean oneColour(Data d, int[] solution) {
        for (int v : solution) {
            if (d.colour[v] == -1 || d.colour[v] != d.colour[solution[0]]) {
                return false;
            }
        }
        return true;
    }

    /** Each conflict as rule, smallest, greatest, colour, weight. */
    private static List<int[]> conflictList(Data d) {
        List<int[]> all = new ArrayList<>();
        for (int rule = 0; rule < d.rules.size(); rule++) {
            for (int[] solution : d.rules.get(rule)) {
                if (oneColour(d, solution)) {
                    TreeSet<Integer> sorted = new TreeSet<>();
                    for (int v : solution) {
                        sorted.add(v);
                    }
                    int colour = d.colour[solution[0]];
                    long weight = Math.max(0, Math.min(999, d.weight.of(rule, sorted.last(), colour)));
                    all.add(new int[] {rule, sorted.first(), sorted.last(), colour, (int) weight});
                }
            }
        }
        return all;
    }

    private static int total(Data d) {
        int sum = 0;
        for (int[] conflict : conflictList(d)) {
            sum += conflict[4];
        }
        return sum;
    }

    private static int conflictsWith(Data d, int number) {
        int sum = 0;
        for (List<int[]> rule : d.rules) {
            for (int[] solution : rule) {
                boolean contains = false;
                for (int v : solution) {
                    contains = contains || v == number;
                }
                sum += contains && oneColour(d, solution) ? 1 : 0;
            }
        }
        return sum;
    }

    private static boolean isAllowed(Data d, int number, int colour) {
        int before = d.colour[number];
        d.colour[number] = colour;
        boolean good = conflictsWith(d, number) == 0;
        d.colour[number] = before;
        return good;
    }

    /** Gain, number and colour of the best repair step. */
    private static int[] best(Data d) {
        int[] best = {-1000000, 0, 0};
        int before = total(d);
        boolean found = false;
        for (int v = 1; v <= d.n; v++) {
            if (d.colour[v] == -1 || d.fixed[v]) {
                continue;
            }
            int own = d.colour[v];
            for (int c = 0; c < d.k; c++) {
                if (c == own) {
                    continue;
                }
                d.colour[v] = c;
                int gain = before - total(d);
                if (!found || gain > best[0]) {
                    best = new int[] {gain, v, c};
                    found = true;
                }
            }
            d.colour[v] = own;
        }
        return best;
    }

    /** One search, by recursion. */
    private static final class Try {
        private static final class GivenUp extends RuntimeException {
            private static final long serialVersionUID = 1L;
        }

        final Data on;
        final int most;
        final List<Integer> open = new ArrayList<>();
        int trials = 0;
        int greatest = 0;

        Try(Data on, int to, int most) {
            this.on = on;
            this.most = most;
            for (int v = 1; v <= to; v++) {
                if (on.colour[v] == -1) {
                    open.add(v);
                }
            }
        }

        int outcome() {
            try {
                return go(0) ? trials : -1;
            } catch (GivenUp e) {
                return -2;
            }
        }

        private boolean go(int at) {
            int reached = 0;
            while (reached < on.n && on.colour[reached + 1] != -1) {
                reached++;
            }
            greatest = Math.max(greatest, reached);
            if (at == open.size()) {
                return true;
            }
            for (int c : coloursToTry()) {
                if (trials == most) {
                    throw new GivenUp();
                }
                trials++;
                if (isAllowed(on, open.get(at), c)) {
                    on.colour[open.get(at)] = c;
                    if (go(at + 1)) {
                        return true;
                    }
                    on.colour[open.get(at)] = -1;
                }
            }
            return false;
        }

        private Set<Integer> coloursToTry() {
            Set<Integer> used = new TreeSet<>();
            for (int v = 1; v <= on.n; v++) {
                used.add(on.colour[v]);
            }
            Set<Integer> answer = new LinkedHashSet<>();
            boolean fresh = false;
            for (int c = 0; c < on.k; c++) {
                if (used.contains(c) || !fresh) {
                    answer.add(c);
                }
                fresh = fresh || !used.contains(c);
            }
            return answer;
        }
    }

    /** A setup text, read token by token. */
    private static final class Text {
        final String text;
        final List<String> tokens = new ArrayList<>();
        final List<Integer> offsets = new ArrayList<>();
        int at = 0;

        Text(String text) {
            this.text = text;
            java.util.regex.Matcher m = java.util.regex.Pattern.compile("[0-9]+|[a-z]+|[^ ]", java.util.regex.Pattern.DOTALL).matcher(text);
            while (m.find()) {
                tokens.add(m.group());
                offsets.add(m.start());
            }
            tokens.add("");
            offsets.add(text.length());
        }

        Data read() {
            Data d = new Data();
            java.util.Arrays.fill(d.colour, -1);
            expect("numbers");
            d.n = number(1, 40);
            d.k = number(1, 4);
            expect(";");
            boolean weighted = false;
            while (!peek().isEmpty()) {
                if (d.rules.size() == 4 && (peek().equals("equation") || peek().equals("progression"))) {
                    throw new Fault(-4, offsets.get(at));
                }
                if (accept("equation")) {
                    int a = number(1, 9);
                    int b = number(1, 9);
                    int c = number(1, 9);
                    int sign = accept("-") ? -1 : 1;
                    int e = sign * number(0, 99);
                    d.rules.add(triples(d.n, new int[] {a, b, c, e}, accept("distinct")));
                } else if (accept("progression")) {
                    d.rules.add(progressions(d.n, number(3, 6)));
                } else if (accept("colour")) {
                    int v = number(1, d.n);
                    d.colour[v] = number(0, d.k - 1);
                    d.fixed[v] = accept("fixed");
                } else if (!weighted && accept("weight")) {
                    weighted = true;
                    d.weight = sum(0);
                } else {
                    throw new Fault(-2, offsets.get(at));
                }
                expect(";");
            }
            return d;
        }

        private String peek() {
            return tokens.get(at);
        }

        private boolean accept(String token) {
            boolean good = peek().equals(token);
            at += good ? 1 : 0;
            return good;
        }

        private void expect(String token) {
            if (!accept(token)) {
                throw new Fault(-2, offsets.get(at));
            }
        }

        private int number(int least, int most) {
            if (!peek().matches("[0-9]+")) {
                throw new Fault(-2, offsets.get(at));
            }
            java.math.BigInteger value = new java.math.BigInteger(peek());
            if (value.compareTo(java.math.BigInteger.valueOf(least)) < 0 || value.compareTo(java.math.BigInteger.valueOf(most)) > 0) {
                throw new Fault(-3, offsets.get(at));
            }
            at++;
            return value.intValue();
        }

        private Weight sum(int depth) {
            Weight left = term(depth);
            while (peek().equals("+") || peek().equals("-")) {
                int sign = accept("+") ? 1 : -1;
                at += sign < 0 ? 1 : 0;
                Weight one = left;
                Weight two = term(depth);
                left = (r, l, c) -> bound(one.of(r, l, c) + sign * two.of(r, l, c));
            }
            return left;
        }

        private Weight term(int depth) {
            Weight left = factor(depth);
            while (peek().equals("*") || peek().equals("/")) {
                boolean times = accept("*");
                at += times ? 0 : 1;
                Weight one = left;
                Weight two = factor(depth);
                left = (r, l, c) -> {
                    long x = one.of(r, l, c);
                    long y = two.of(r, l, c);
                    return bound(times ? x * y : y == 0 ? 0 : x / y);
                };
            }
            return left;
        }

        private Weight factor(int depth) {
            if (peek().equals("(") && depth == 4) {
                throw new Fault(-5, offsets.get(at));
            }
            if (accept("(")) {
                Weight inner = sum(depth + 1);
                expect(")");
                return inner;
            }
            if (accept("rule")) {
                return (r, l, c) -> r;
            }
            if (accept("largest")) {
                return (r, l, c) -> l;
            }
            if (accept("colour")) {
                return (r, l, c) -> c;
            }
            int value = number(0, 9999);
            return (r, l, c) -> value;
        }

        private static long bound(long value) {
            return Math.max(-1000000, Math.min(1000000, value));
        }

        private static List<int[]> triples(int n, int[] f, boolean distinct) {
            List<int[]> all = new ArrayList<>();
            for (int x = 1; x <= n; x++) {
                for (int y = 1; y <= n; y++) {
                    for (int z = 1; z <= n; z++) {
                        boolean different = x != y && x != z && y != z;
                        if (f[0] * x + f[1] * y == f[2] * z + f[3] && (different || !distinct)) {
                            all.add(new int[] {x, y, z});
                        }
                    }
                }
            }
            return all;
        }

        private static List<int[]> progressions(int n, int length) {
            List<int[]> all = new ArrayList<>();
            for (int first = 1; first <= n; first++) {
                for (int second = first + 1; second <= n; second++) {
                    int[] numbers = new int[length];
                    for (int i = 0; i < length; i++) {
                        numbers[i] = first + i * (second - first);
                    }
                    if (numbers[length - 1] <= n) {
                        all.add(numbers);
                    }
                }
            }
            return all;
        }
    }
}
