import java.util.Arrays;
import java.util.NoSuchElementException;

/**
 * Colourings of the numbers 1 to n in which no solution of an equation and no arithmetic
 * progression has one colour.
 *
 * Sets of numbers are held in one long: bit v stands for the number v. Whether a solution has
 * one colour is then a single mask operation, and the search can afford its many trials.
 */
public final class SumColouring {
    public static final int SYNTAX_ERROR = -2;
    public static final int OUT_OF_RANGE = -3;
    public static final int TOO_MANY = -4;
    public static final int TOO_DEEP = -5;

    private static final int NONE = -1;
    private static final int MOST_BYTES = 600;
    private static final int MOST_NUMBERS = 40;
    private static final int MOST_COLOURS = 4;
    private static final int MOST_RULES = 4;
    private static final int MOST_TRIALS = 3000;
    private static final int MOST_REPAIRS = 10;

    private final byte[] input = new byte[MOST_BYTES];
    private int inputLength = 0;
    private int errorPlace = NONE;
    private Setup setup;
    private final SetupReader reader = new SetupReader();
    private final Solutions table = new Solutions();
    private final Colouring colouring = new Colouring();
    private final Search search = new Search();
    private final Repairs repairs = new Repairs();
    private final History history = new History();

    public SumColouring() {
        setup = new Setup(0, 0, new Rule[0], new Formula(new int[0]));
    }

    public int append(int w0, int w1, int w2, int w3, int w4) {
        if (inputLength > MOST_BYTES - 20) {
            return -1;
        }
        putWord(w0);
        putWord(w1);
        putWord(w2);
        putWord(w3);
        putWord(w4);
        return inputLength;
    }

    private void putWord(int word) {
        for (int shift = 24; shift >= 0 && inputLength < input.length; shift -= 8) {
            input[inputLength] = (byte) (word >>> shift);
            inputLength++;
        }
    }

    public int load(int length) throws IllegalArgumentException {
        if (length < 0 || length > inputLength) {
            throw new IllegalArgumentException("the buffer does not hold so many bytes");
        }
        inputLength = 0;
        boolean good = reader.read(input, length);
        errorPlace = reader.errorPlace;
        if (!good) {
            return reader.errorCode;
        }
        history.remember(setup, colouring);
        setup = reader.makeSetup();
        colouring.copyFrom(reader.colouring);
        table.prepare(setup);
        return setup.rules.length;
    }

    public int errorOffset() {
        return errorPlace;
    }

    public int numberCount() {
        return setup.numbers;
    }

    public int colourCount() {
        return setup.colours;
    }

    public int ruleCount() {
        return setup.rules.length;
    }

    public int solutions(int rule) throws IndexOutOfBoundsException {
        if (rule < 0 || rule >= setup.rules.length) {
            throw new IndexOutOfBoundsException("no such rule");
        }
        return table.sizeOf(rule);
    }

    public int colour(int number) throws IndexOutOfBoundsException {
        requireNumber(number);
        return colouring.colourOf(number);
    }

    public boolean isFixed(int number) throws IndexOutOfBoundsException {
        requireNumber(number);
        return colouring.hasFixed(number);
    }

    public int count(int colour) throws IndexOutOfBoundsException {
        requireColourOrNone(colour);
        return countPainted(colour);
    }

    private int countPainted(int colour) {
        if (colour != NONE) {
            return Long.bitCount(colouring.numbersWith(colour));
        }
        int left = setup.numbers;
        for (int c = 0; c < setup.colours; c++) {
            left -= Long.bitCount(colouring.numbersWith(c));
        }
        return left;
    }

    public int conflicts() {
        return table.countConflicts(colouring, 0L);
    }

    public int totalWeight() {
        return table.weighConflicts(colouring);
    }

    public int conflict(int index, int what) throws NoSuchElementException, IllegalArgumentException {
        int place = table.findConflict(colouring, index);
        if (place == NONE) {
            throw new NoSuchElementException("no such conflict");
        }
        if (what < 0 || what > 4) {
            throw new IllegalArgumentException("what is 0 to 4");
        }
        int itsColour = colouring.commonColour(table.setOf(place));
        switch (what) {
            case 0:
                return table.ruleOf(place);
            case 1:
                return table.smallestOf(place);
            case 2:
                return table.greatestOf(place);
            case 3:
                return itsColour;
            default:
                return table.weightOf(place, itsColour);
        }
    }

    public int conflictsOf(int number) throws IndexOutOfBoundsException {
        requireNumber(number);
        return table.countConflicts(colouring, 1L << number);
    }

    public int allowed(int number) throws IndexOutOfBoundsException {
        requireNumber(number);
        int set = 0;
        for (int c = 0; c < setup.colours; c++) {
            if (table.allows(number, colouring.numbersWith(c))) {
                set |= 1 << c;
            }
        }
        return set;
    }

    public int canExtend(int to, int trials) throws IndexOutOfBoundsException, IllegalArgumentException {
        requireNumber(to);
        requireTrials(trials);
        return search.run(table, colouring, to, setup.colours, trials);
    }

    public int longest(int trials) throws IllegalArgumentException {
        requireTrials(trials);
        return search.reach(table, setup.numbers, setup.colours, trials);
    }

    public int bestGain() {
        repairs.find(setup, table, colouring);
        return repairs.gain;
    }

    public int setColour(int number, int colour) throws IndexOutOfBoundsException, IllegalStateException {
        requireNumber(number);
        requireColourOrNone(colour);
        if (colouring.hasFixed(number)) {
            throw new IllegalStateException("the number is fixed");
        }
        history.remember(setup, colouring);
        int before = colouring.colourOf(number);
        colouring.paint(number, colour);
        return before;
    }

    public boolean setFixed(int number, boolean fixed) throws IndexOutOfBoundsException, IllegalStateException {
        requireNumber(number);
        if (fixed && colouring.colourOf(number) == NONE) {
            throw new IllegalStateException("the number has no colour");
        }
        history.remember(setup, colouring);
        boolean before = colouring.hasFixed(number);
        colouring.fix(number, fixed);
        return before;
    }

    public int swapColours(int one, int other) throws IndexOutOfBoundsException {
        requireColour(one);
        requireColour(other);
        history.remember(setup, colouring);
        if (one == other) {
            return 0;
        }
        colouring.exchange(one, other);
        return countPainted(one) + countPainted(other);
    }

    public int extend(int to, int trials) throws IndexOutOfBoundsException, IllegalArgumentException {
        requireNumber(to);
        requireTrials(trials);
        int answer = search.run(table, colouring, to, setup.colours, trials);
        if (answer >= 0) {
            history.remember(setup, colouring);
            colouring.copyFrom(search.colouring);
        }
        return answer;
    }

    public int repair(int most) throws IllegalArgumentException {
        if (most < 1 || most > MOST_REPAIRS) {
            throw new IllegalArgumentException("most is 1 to 10");
        }
        history.remember(setup, colouring);
        for (int made = 0; made < most; made++) {
            repairs.find(setup, table, colouring);
            if (repairs.gain <= 0) {
                return made;
            }
            colouring.paint(repairs.number, repairs.colour);
        }
        return most;
    }

    public int undo() {
        Setup before = history.latestSetup();
        if (before == null) {
            return -1;
        }
        history.takeBack(colouring);
        // The table holds the solutions of one setup only, so that eight setups need no eight tables.
        if (before != setup) {
            setup = before;
            table.prepare(setup);
        }
        return history.size();
    }

    public long checksum() {
        long sum = 0;
        for (int number = 1; number <= setup.numbers; number++) {
            sum = 31 * sum + colouring.colourOf(number);
            sum = 31 * sum + (colouring.hasFixed(number) ? 1 : 0);
        }
        sum = 31 * sum + table.countConflicts(colouring, 0L);
        return 31 * sum + table.weighConflicts(colouring);
    }

    private void requireNumber(int number) {
        if (number < 1 || number > setup.numbers) {
            throw new IndexOutOfBoundsException("no such number");
        }
    }

    private void requireColour(int colour) {
        if (colour < 0 || colour >= setup.colours) {
            throw new IndexOutOfBoundsException("no such colour");
        }
    }

    private void requireColourOrNone(int colour) {
        if (colour != NONE) {
            requireColour(colour);
        }
    }

    private void requireTrials(int trials) {
        if (trials < 1 || trials > MOST_TRIALS) {
            throw new IllegalArgumentException("trials is 1 to 3000");
        }
    }

    private static int limit(long value, int least, int most) {
        return (int) Math.max(least, Math.min(most, value));
    }

    /** What a setup text says but for its colours; it never changes, so the history can share it. */
    private static final class Setup {
        final int numbers;
        final int colours;
        final Rule[] rules;
        final Formula weight;

        Setup(int numbers, int colours, Rule[] rules, Formula weight) {
            this.numbers = numbers;
            this.colours = colours;
            this.rules = rules;
            this.weight = weight;
        }
    }

    /** An equation a * x + b * y = c * z + d, or a progression; the length of an equation is 0. */
    private static final class Rule {
        private final int length;
        private final int a;
        private final int b;
        private final int c;
        private final int d;
        private final boolean distinct;

        Rule(int length) {
            this.length = length;
            a = 0;
            b = 0;
            c = 0;
            d = 0;
            distinct = false;
        }

        Rule(int a, int b, int c, int d, boolean distinct) {
            length = 0;
            this.a = a;
            this.b = b;
            this.c = c;
            this.d = d;
            this.distinct = distinct;
        }

        void addSolutions(int numbers, Solutions table) {
            if (length > 0) {
                addProgressions(numbers, table);
            } else {
                addTriples(numbers, table);
            }
        }

        private void addTriples(int numbers, Solutions table) {
            if (c < 1) {
                return;
            }
            for (int x = 1; x <= numbers; x++) {
                for (int y = 1; y <= numbers; y++) {
                    int product = a * x + b * y - d;
                    int z = product / c;
                    if (product % c == 0 && z >= 1 && z <= numbers && fits(x, y, z)) {
                        table.add((1L << x) | (1L << y) | (1L << z), Math.max(x, Math.max(y, z)));
                    }
                }
            }
        }

        private boolean fits(int x, int y, int z) {
            return !distinct || x != y && y != z && x != z;
        }

        private void addProgressions(int numbers, Solutions table) {
            for (int first = 1; first <= numbers; first++) {
                for (int step = 1; first + (length - 1) * step <= numbers && step <= numbers; step++) {
                    long set = 0;
                    for (int i = 0; i < length; i++) {
                        set |= 1L << (first + i * step);
                    }
                    table.add(set, first + (length - 1) * step);
                }
            }
        }
    }

    /**
     * The weight expression in postfix order, so that a long sum needs no deep calls: a token from
     * 0 on is a number, the others are the constants below.
     */
    private static final class Formula {
        static final int ADD = -1;
        static final int SUBTRACT = -2;
        static final int MULTIPLY = -3;
        static final int DIVIDE = -4;
        static final int RULE = -5;
        static final int LARGEST = -6;
        static final int COLOUR = -7;
        private static final int BOUND = 1000000;
        private static final int MOST_WEIGHT = 999;
        // At most two operands wait on each of the five levels of parentheses, and one stands above them.
        private static final int MOST_OPERANDS = 11;

        private final int[] tokens;
        private final int[] stack = new int[MOST_OPERANDS];

        Formula(int[] tokens) {
            this.tokens = tokens;
        }

        int weigh(int rule, int largest, int colour) {
            if (tokens.length == 0) {
                return 1;
            }
            int height = 0;
            for (int i = 0; i < tokens.length; i++) {
                int token = tokens[i];
                if (token <= ADD && token >= DIVIDE) {
                    if (height >= 2 && height <= stack.length) {
                        stack[height - 2] = apply(token, stack[height - 2], stack[height - 1]);
                        height--;
                    }
                } else if (height < stack.length) {
                    stack[height] = operand(token, rule, largest, colour);
                    height++;
                }
            }
            return limit(stack[0], 0, MOST_WEIGHT);
        }

        private static int operand(int token, int rule, int largest, int colour) {
            switch (token) {
                case RULE:
                    return rule;
                case LARGEST:
                    return largest;
                case COLOUR:
                    return colour;
                default:
                    return token;
            }
        }

        private static int apply(int operator, long left, long right) {
            switch (operator) {
                case ADD:
                    return limit(left + right, -BOUND, BOUND);
                case SUBTRACT:
                    return limit(left - right, -BOUND, BOUND);
                case MULTIPLY:
                    return limit(left * right, -BOUND, BOUND);
                default:
                    return right == 0 ? 0 : limit(left / right, -BOUND, BOUND);
            }
        }
    }

    /** The tokens of a text, one at a time. */
    private static final class Tokens {
        static final int END = 0;
        static final int NUMBER = 1;
        static final int WORD = 2;
        static final int SIGN = 3;
        // Far above every range, and far enough below the greatest int for one more digit.
        private static final int HUGE = 1000000;

        int kind = END;
        int start = 0;
        int value = 0;
        private byte[] text = new byte[0];
        private int length = 0;
        private int end = 0;

        void begin(byte[] newText, int newLength) {
            text = newText;
            length = Math.min(newLength, newText.length);
            end = 0;
            advance();
        }

        void advance() {
            while (end < length && text[end] == ' ') {
                end++;
            }
            start = end;
            value = 0;
            if (end >= length) {
                kind = END;
            } else if (text[end] >= '0' && text[end] <= '9') {
                kind = NUMBER;
                while (end < length && text[end] >= '0' && text[end] <= '9') {
                    value = Math.min(HUGE, value * 10 + (text[end] - '0'));
                    end++;
                }
            } else if (text[end] >= 'a' && text[end] <= 'z') {
                kind = WORD;
                while (end < length && text[end] >= 'a' && text[end] <= 'z') {
                    end++;
                }
            } else {
                kind = SIGN;
                value = text[end];
                end++;
            }
        }

        boolean isSign(char sign) {
            return kind == SIGN && value == sign;
        }

        boolean isWord(String word) {
            if (kind != WORD || end - start != word.length()) {
                return false;
            }
            for (int i = 0; i < word.length() && start + i < text.length; i++) {
                if (text[start + i] != word.charAt(i)) {
                    return false;
                }
            }
            return true;
        }
    }

    /**
     * Reads a setup text. Every error lies at the start of the token that is looked at, and tokens
     * are looked at in the order of the text, so the first error found is the first one in the text.
     */
    private static final class SetupReader {
        private static final int MOST_DEPTH = 4;

        int errorCode = 0;
        int errorPlace = NONE;
        final Colouring colouring = new Colouring();
        private final Tokens tokens = new Tokens();
        private int numbers = 0;
        private int colours = 0;
        private final Rule[] rules = new Rule[MOST_RULES];
        private int ruleTotal = 0;
        private final int[] program = new int[MOST_BYTES];
        private int programLength = 0;

        boolean read(byte[] text, int length) {
            errorCode = 0;
            errorPlace = NONE;
            colouring.clear();
            ruleTotal = 0;
            programLength = 0;
            tokens.begin(text, length);
            boolean good = readHead();
            for (int i = 0; good && tokens.kind != Tokens.END && i < MOST_BYTES; i++) {
                good = readStatement();
            }
            return good;
        }

        Setup makeSetup() {
            Rule[] kept = new Rule[ruleTotal];
            for (int i = 0; i < ruleTotal && i < rules.length; i++) {
                kept[i] = rules[i];
            }
            return new Setup(numbers, colours, kept, new Formula(Arrays.copyOf(program, programLength)));
        }

        private boolean readHead() {
            if (!tokens.isWord("numbers")) {
                return fail(SYNTAX_ERROR);
            }
            tokens.advance();
            numbers = takeNumber(1, MOST_NUMBERS);
            if (numbers == NONE) {
                return false;
            }
            colours = takeNumber(1, MOST_COLOURS);
            return colours != NONE && takeSign(';');
        }

        private boolean readStatement() {
            boolean good;
            if (tokens.isWord("equation")) {
                good = readEquation();
            } else if (tokens.isWord("progression")) {
                good = readProgression();
            } else if (tokens.isWord("colour")) {
                good = readColour();
            } else if (tokens.isWord("weight") && programLength == 0) {
                tokens.advance();
                good = readSum(0);
            } else {
                good = fail(SYNTAX_ERROR);
            }
            return good && takeSign(';');
        }

        private boolean readEquation() {
            if (ruleTotal >= MOST_RULES) {
                return fail(TOO_MANY);
            }
            tokens.advance();
            int a = takeNumber(1, 9);
            if (a == NONE) {
                return false;
            }
            int b = takeNumber(1, 9);
            if (b == NONE) {
                return false;
            }
            int c = takeNumber(1, 9);
            if (c == NONE) {
                return false;
            }
            boolean negative = skipIf(tokens.isSign('-'));
            int d = takeNumber(0, 99);
            if (d == NONE) {
                return false;
            }
            boolean distinct = skipIf(tokens.isWord("distinct"));
            keepRule(new Rule(a, b, c, negative ? -d : d, distinct));
            return true;
        }

        private boolean readProgression() {
            if (ruleTotal >= MOST_RULES) {
                return fail(TOO_MANY);
            }
            tokens.advance();
            int length = takeNumber(3, 6);
            if (length == NONE) {
                return false;
            }
            keepRule(new Rule(length));
            return true;
        }

        private void keepRule(Rule rule) {
            if (ruleTotal < rules.length) {
                rules[ruleTotal] = rule;
                ruleTotal++;
            }
        }

        private boolean readColour() {
            tokens.advance();
            int number = takeNumber(1, numbers);
            if (number == NONE) {
                return false;
            }
            int colour = takeNumber(0, colours - 1);
            if (colour == NONE) {
                return false;
            }
            colouring.paint(number, colour);
            colouring.fix(number, skipIf(tokens.isWord("fixed")));
            return true;
        }

        private boolean readSum(int depth) {
            boolean good = readTerm(depth);
            for (int i = 0; good && (tokens.isSign('+') || tokens.isSign('-')) && i < MOST_BYTES; i++) {
                int operator = tokens.isSign('+') ? Formula.ADD : Formula.SUBTRACT;
                tokens.advance();
                good = readTerm(depth) && put(operator);
            }
            return good;
        }

        private boolean readTerm(int depth) {
            boolean good = readFactor(depth);
            for (int i = 0; good && (tokens.isSign('*') || tokens.isSign('/')) && i < MOST_BYTES; i++) {
                int operator = tokens.isSign('*') ? Formula.MULTIPLY : Formula.DIVIDE;
                tokens.advance();
                good = readFactor(depth) && put(operator);
            }
            return good;
        }

        private boolean readFactor(int depth) {
            if (tokens.isSign('(')) {
                if (depth >= MOST_DEPTH) {
                    return fail(TOO_DEEP);
                }
                tokens.advance();
                return readSum(depth + 1) && takeSign(')');
            }
            if (tokens.kind == Tokens.NUMBER) {
                int number = takeNumber(0, 9999);
                return number != NONE && put(number);
            }
            return readName();
        }

        private boolean readName() {
            int token;
            if (tokens.isWord("rule")) {
                token = Formula.RULE;
            } else if (tokens.isWord("largest")) {
                token = Formula.LARGEST;
            } else if (tokens.isWord("colour")) {
                token = Formula.COLOUR;
            } else {
                return fail(SYNTAX_ERROR);
            }
            tokens.advance();
            return put(token);
        }

        /** Each token stands for at least one byte of the text, so there is always room. */
        private boolean put(int token) {
            if (programLength >= program.length) {
                return false;
            }
            program[programLength] = token;
            programLength++;
            return true;
        }

        private int takeNumber(int least, int most) {
            if (tokens.kind != Tokens.NUMBER) {
                fail(SYNTAX_ERROR);
                return NONE;
            }
            int number = tokens.value;
            if (number < least || number > most) {
                fail(OUT_OF_RANGE);
                return NONE;
            }
            tokens.advance();
            return number;
        }

        private boolean takeSign(char sign) {
            if (!tokens.isSign(sign)) {
                return fail(SYNTAX_ERROR);
            }
            tokens.advance();
            return true;
        }

        private boolean skipIf(boolean found) {
            if (found) {
                tokens.advance();
            }
            return found;
        }

        private boolean fail(int code) {
            errorCode = code;
            errorPlace = tokens.start;
            return false;
        }
    }

    /** Which numbers have which colour, and which of them are fixed. */
    private static final class Colouring {
        private final long[] painted = new long[MOST_COLOURS];
        private long fixed = 0;

        void clear() {
            Arrays.fill(painted, 0L);
            fixed = 0;
        }

        void copyFrom(Colouring other) {
            System.arraycopy(other.painted, 0, painted, 0, painted.length);
            fixed = other.fixed;
        }

        int colourOf(int number) {
            for (int c = 0; c < painted.length; c++) {
                if ((painted[c] & (1L << number)) != 0) {
                    return c;
                }
            }
            return NONE;
        }

        long numbersWith(int colour) {
            return colour >= 0 && colour < painted.length ? painted[colour] : 0L;
        }

        void paint(int number, int colour) {
            for (int c = 0; c < painted.length; c++) {
                painted[c] &= ~(1L << number);
            }
            if (colour >= 0 && colour < painted.length) {
                painted[colour] |= 1L << number;
            }
        }

        void exchange(int one, int other) {
            if (one >= 0 && one < painted.length && other >= 0 && other < painted.length) {
                long kept = painted[one];
                painted[one] = painted[other];
                painted[other] = kept;
            }
        }

        /** The colour that all numbers of the set have. */
        int commonColour(long set) {
            for (int c = 0; c < painted.length; c++) {
                if ((set & ~painted[c]) == 0) {
                    return c;
                }
            }
            return NONE;
        }

        boolean hasFixed(int number) {
            return (fixed & (1L << number)) != 0;
        }

        void fix(int number, boolean yes) {
            fixed &= ~(1L << number);
            if (yes) {
                fixed |= 1L << number;
            }
        }
    }

    /** The solutions of all rules of one setup in their order, with what weighs a conflict of them. */
    private static final class Solutions {
        // An equation has at most one z for each pair of x and y; a progression has fewer solutions.
        private static final int MOST_SOLUTIONS = MOST_RULES * MOST_NUMBERS * MOST_NUMBERS;
        private static final int ROWS = MOST_NUMBERS + 1;

        private final long[] sets = new long[MOST_SOLUTIONS];
        private final int[] weightRows = new int[MOST_SOLUTIONS];
        private int size = 0;
        private final int[] ruleStarts = new int[MOST_RULES + 1];
        private int ruleInWork = 0;
        private final int[] weights = new int[MOST_RULES * ROWS * MOST_COLOURS];
        // For each number the rest of each solution that contains it, for the trials of the search:
        // three numbers of an equation at most, and the progressions again need less.
        private final long[] rests = new long[3 * MOST_SOLUTIONS];
        private final int[] restStarts = new int[MOST_NUMBERS + 2];

        void prepare(Setup setup) {
            size = 0;
            Arrays.fill(ruleStarts, 0);
            for (int rule = 0; rule < setup.rules.length && rule < MOST_RULES; rule++) {
                ruleInWork = rule;
                if (setup.rules[rule] != null) {
                    setup.rules[rule].addSolutions(setup.numbers, this);
                }
                ruleStarts[rule + 1] = size;
                fillWeights(setup, rule);
            }
            fillRests(setup.numbers);
        }

        void add(long set, int greatest) {
            if (size < sets.length) {
                sets[size] = set;
                weightRows[size] = ruleInWork * ROWS + greatest;
                size++;
            }
        }

        private void fillWeights(Setup setup, int rule) {
            for (int largest = 1; largest <= setup.numbers; largest++) {
                int place = (rule * ROWS + largest) * MOST_COLOURS;
                for (int c = 0; c < setup.colours && place + c < weights.length; c++) {
                    weights[place + c] = setup.weight.weigh(rule, largest, c);
                }
            }
        }

        private void fillRests(int numbers) {
            int filled = 0;
            for (int number = 1; number <= MOST_NUMBERS; number++) {
                restStarts[number] = filled;
                long bit = 1L << number;
                for (int i = 0; number <= numbers && i < size && filled < rests.length; i++) {
                    if ((sets[i] & bit) != 0) {
                        rests[filled] = sets[i] & ~bit;
                        filled++;
                    }
                }
            }
            restStarts[MOST_NUMBERS + 1] = filled;
        }

        int size() {
            return size;
        }

        int sizeOf(int rule) {
            return rule >= 0 && rule < MOST_RULES ? ruleStarts[rule + 1] - ruleStarts[rule] : 0;
        }

        long setOf(int place) {
            return place >= 0 && place < size ? sets[place] : 0L;
        }

        int ruleOf(int place) {
            return place >= 0 && place < size ? weightRows[place] / ROWS : NONE;
        }

        int greatestOf(int place) {
            return place >= 0 && place < size ? weightRows[place] % ROWS : NONE;
        }

        int smallestOf(int place) {
            return firstNumber(setOf(place));
        }

        int weightOf(int place, int colour) {
            if (place < 0 || place >= size || colour < 0 || colour >= MOST_COLOURS) {
                return 0;
            }
            int at = weightRows[place] * MOST_COLOURS + colour;
            return at < weights.length ? weights[at] : 0;
        }

        int countConflicts(Colouring colouring, long within) {
            int found = 0;
            for (int i = 0; i < size; i++) {
                if ((within & ~sets[i]) == 0 && colouring.commonColour(sets[i]) != NONE) {
                    found++;
                }
            }
            return found;
        }

        int weighConflicts(Colouring colouring) {
            int sum = 0;
            for (int i = 0; i < size; i++) {
                int colour = colouring.commonColour(sets[i]);
                if (colour != NONE) {
                    sum += weightOf(i, colour);
                }
            }
            return sum;
        }

        int findConflict(Colouring colouring, int index) {
            int before = 0;
            for (int i = 0; i < size; i++) {
                if (colouring.commonColour(sets[i]) != NONE) {
                    if (before == index) {
                        return i;
                    }
                    before++;
                }
            }
            return NONE;
        }

        boolean allows(int number, long sameColour) {
            if (number < 1 || number > MOST_NUMBERS) {
                return false;
            }
            int end = Math.min(restStarts[number + 1], rests.length);
            for (int i = Math.max(0, restStarts[number]); i < end; i++) {
                if ((rests[i] & ~sameColour) == 0) {
                    return false;
                }
            }
            return true;
        }

        static int firstNumber(long set) {
            return Long.bitCount((set & -set) - 1);
        }
    }

    /** The search with backtracking, on a colouring of its own. */
    private static final class Search {
        private static final int FAILED = -1;
        private static final int GIVEN_UP = -2;
        // Each step is a trial or takes back the success of an earlier one; the last steps end the search.
        private static final int MOST_STEPS = 2 * MOST_TRIALS + 3;

        final Colouring colouring = new Colouring();
        private final Colouring blank = new Colouring();
        private final int[] open = new int[MOST_NUMBERS];
        private final int[] tried = new int[MOST_NUMBERS];
        private int openTotal = 0;
        private int deepest = 0;

        int run(Solutions table, Colouring from, int to, int colours, int most) {
            colouring.copyFrom(from);
            listOpen(to);
            deepest = 0;
            int place = 0;
            int trials = 0;
            for (int step = 0; step < MOST_STEPS; step++) {
                if (place < 0) {
                    return FAILED;
                }
                if (place >= openTotal || place >= open.length) {
                    return trials;
                }
                int colour = nextColour(tried[place], colours);
                if (colour == NONE) {
                    tried[place] = NONE;
                    place--;
                    uncolour(place);
                } else if (trials >= most) {
                    return GIVEN_UP;
                } else {
                    trials++;
                    tried[place] = colour;
                    if (table.allows(open[place], colouring.numbersWith(colour))) {
                        colouring.paint(open[place], colour);
                        place++;
                        deepest = Math.max(deepest, place);
                    }
                }
            }
            return GIVEN_UP;
        }

        /** Without colours at the beginning the open numbers are 1 to n, so the depth is the number reached. */
        int reach(Solutions table, int numbers, int colours, int most) {
            run(table, blank, numbers, colours, most);
            return deepest;
        }

        private void listOpen(int to) {
            openTotal = 0;
            for (int number = 1; number <= to && openTotal < open.length; number++) {
                if (colouring.colourOf(number) == NONE) {
                    open[openTotal] = number;
                    tried[openTotal] = NONE;
                    openTotal++;
                }
            }
        }

        private void uncolour(int place) {
            if (place >= 0 && place < open.length) {
                colouring.paint(open[place], NONE);
            }
        }

        private int nextColour(int after, int colours) {
            boolean unusedSeen = false;
            for (int c = 0; c < colours; c++) {
                boolean unused = colouring.numbersWith(c) == 0;
                if (c > after && !(unused && unusedSeen)) {
                    return c;
                }
                unusedSeen = unusedSeen || unused;
            }
            return NONE;
        }
    }

    /** Finds the best repair step. */
    private static final class Repairs {
        private static final int NO_STEP = -1000000;
        private static final int MOST_IN_SOLUTION = 6;

        int gain = NO_STEP;
        int number = 0;
        int colour = NONE;
        // For each number and colour the weight of the conflicts that would contain it in this colour.
        private final int[] charges = new int[(MOST_NUMBERS + 1) * MOST_COLOURS];

        void find(Setup setup, Solutions table, Colouring colouring) {
            fillCharges(setup, table, colouring);
            gain = NO_STEP;
            for (int v = 1; v <= setup.numbers; v++) {
                int present = colouring.colourOf(v);
                for (int c = 0; present != NONE && !colouring.hasFixed(v) && c < setup.colours; c++) {
                    int change = chargeOf(v, present) - chargeOf(v, c);
                    if (c != present && change > gain) {
                        gain = change;
                        number = v;
                        colour = c;
                    }
                }
            }
        }

        /** A solution counts for a number if all the others of it, or all, have the colour. */
        private void fillCharges(Setup setup, Solutions table, Colouring colouring) {
            Arrays.fill(charges, 0);
            for (int c = 0; c < setup.colours; c++) {
                long others = ~colouring.numbersWith(c);
                for (int i = 0; i < table.size(); i++) {
                    long missing = table.setOf(i) & others;
                    if (missing == 0) {
                        charge(table.setOf(i), c, table.weightOf(i, c));
                    } else if ((missing & (missing - 1)) == 0) {
                        charge(missing, c, table.weightOf(i, c));
                    }
                }
            }
        }

        private void charge(long set, int c, int weight) {
            long left = set;
            for (int i = 0; i < MOST_IN_SOLUTION && left != 0; i++) {
                int at = Solutions.firstNumber(left) * MOST_COLOURS + c;
                if (at >= 0 && at < charges.length) {
                    charges[at] += weight;
                }
                left &= left - 1;
            }
        }

        private int chargeOf(int v, int c) {
            int at = v * MOST_COLOURS + c;
            return at >= 0 && at < charges.length ? charges[at] : 0;
        }
    }

    /** The data before each of the latest changes, in a ring whose rows are used again. */
    private static final class History {
        private static final int MOST_CHANGES = 8;

        private final Setup[] setups = new Setup[MOST_CHANGES];
        private final Colouring[] colourings = new Colouring[MOST_CHANGES];
        private int next = 0;
        private int kept = 0;

        History() {
            for (int i = 0; i < MOST_CHANGES; i++) {
                colourings[i] = new Colouring();
            }
        }

        void remember(Setup setup, Colouring colouring) {
            setups[next] = setup;
            colourings[next].copyFrom(colouring);
            next = (next + 1) % MOST_CHANGES;
            kept = Math.min(kept + 1, MOST_CHANGES);
        }

        Setup latestSetup() {
            return kept > 0 ? setups[latest()] : null;
        }

        void takeBack(Colouring into) {
            if (kept > 0) {
                next = latest();
                kept--;
                into.copyFrom(colourings[next]);
            }
        }

        int size() {
            return kept;
        }

        private int latest() {
            return (next + MOST_CHANGES - 1) % MOST_CHANGES;
        }
    }
}
