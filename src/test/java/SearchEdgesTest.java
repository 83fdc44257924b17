/** The sentences on the search, and promises 17, 18 and 23, with a test of its own for each one. */
public final class SearchEdgesTest {
    private static final Checks CHECKS = new Checks();
    private static final Class<IndexOutOfBoundsException> NO_INDEX = IndexOutOfBoundsException.class;
    private static final Class<IllegalArgumentException> NO_ARGUMENT = IllegalArgumentException.class;
    private static final int FAILS = -1;
    private static final int GIVEN_UP = -2;
    /** The trials are 1a; 2a no, 2b; 3a; 4a no, 4b no; 3b; 4a; 5a no, 5b no; 4b no; then it fails. */
    private static final String SCHUR = "numbers 5 2;equation 1 1 1 0;";
    /** Up to 28 with the trial 3000, up to 29 with the trial 3001. */
    private static final String LONG = "numbers 38 2;equation 2 2 1 0;";
    /** Fails after 3000 trials, and the other one after 3001. */
    private static final String LONG_FAILURE = "numbers 18 4;equation 2 1 1 0 distinct;equation 1 1 2 4;progression 3;";
    private static final String LONGER_FAILURE = "numbers 40 3;equation 2 1 3 0 distinct;progression 3;colour 2 1;colour 24 1;";
    /** No colour is allowed for 1. */
    private static final String HOPELESS = "equation 1 1 1 1;";

    public static void main(String[] args) {
        numbersWithoutColour();
        colourOrder();
        eachColourIsATrial();
        allowedColour();
        goingBack();
        success();
        givenUp();
        withoutChange();
        canExtendAnswers();
        canExtendArguments();
        longestFromNothing();
        longestAnswers();
        longestArguments();
        extendKeeps();
        extendOtherwise();
        extendAnswers();
        extendArguments();
        CHECKS.finish();
    }

    private static void dueCanExtend(String text, int to, int trials, int want) {
        CHECKS.due("canExtend(" + to + ", " + trials + ") of " + text, Checks.loaded(text).canExtend(to, trials), want);
    }

    private static void dueExtend(String text, int to, int want, String picture) {
        SumColouring x = Checks.loaded(text);
        CHECKS.due("extend(" + to + ", 3000) of " + text, x.extend(to, 3000), want);
        CHECKS.due("the picture of " + text, Checks.picture(x), picture);
    }

    /** The number of trials after which the search fails, told by where it begins to be given up. */
    private static void dueFailure(String text, int to, int trials) {
        dueCanExtend(text, to, trials, FAILS);
        dueCanExtend(text, to, 3000, FAILS);
        if (trials > 1) {
            dueCanExtend(text, to, trials - 1, GIVEN_UP);
        }
    }

    private static void numbersWithoutColour() {
        CHECKS.of(0, "The search from 1 to a number 'to' goes through the numbers from 1 to 'to' that have no colour when it begins, in ascending order.");
        dueExtend("numbers 5 2;", 1, 1, "a....");
        dueExtend("numbers 5 2;", 4, 4, "aaaa.");
        dueExtend("numbers 5 2;", 5, 5, "aaaaa");
        dueExtend("numbers 1 1;", 1, 1, "a");
        dueExtend("numbers 40 1;", 40, 40, "a".repeat(40));
        String some = "numbers 5 2;colour 2 1;colour 4 1 fixed;";
        dueExtend(some, 1, 1, "ab.B.");
        dueExtend(some, 2, 1, "ab.B.");
        dueExtend(some, 3, 2, "abaB.");
        dueExtend(some, 4, 2, "abaB.");
        dueExtend(some, 5, 3, "abaBa");
        // In another order 2 would get colour 0, and 1 colour 1.
        dueExtend("numbers 2 2;equation 1 1 1 0;", 2, 3, "ab");
    }

    private static void colourOrder() {
        CHECKS.of(0, "At each of them it tries the colours in ascending order, but of the colours that no number has at this moment only the smallest one.");
        // The search fails at 1, so the trials tell how many colours are tried there.
        for (int k = 1; k <= 4; k++) {
            dueFailure("numbers 5 " + k + ";" + HOPELESS, 1, 1);
            dueFailure("numbers 5 " + k + ";" + HOPELESS + "colour 5 " + (k - 1) + ";", 1, Math.min(k, 2));
            dueFailure("numbers 5 " + k + ";" + HOPELESS + "colour 2 0;", 1, Math.min(k, 2));
        }
        dueFailure("numbers 5 4;" + HOPELESS + "colour 2 3 fixed;colour 3 3;", 1, 2);
        dueFailure("numbers 5 4;" + HOPELESS + "colour 2 1;colour 3 3;", 1, 3);
        dueFailure("numbers 5 4;" + HOPELESS + "colour 2 0;colour 3 1;", 1, 3);
        dueFailure("numbers 5 4;" + HOPELESS + "colour 2 1;colour 3 2;colour 4 3;", 1, 4);
        dueFailure("numbers 5 4;" + HOPELESS + "colour 2 0;colour 3 1;colour 4 2;", 1, 4);
        dueFailure("numbers 5 4;" + HOPELESS + "colour 2 0;colour 3 1;colour 4 2;colour 5 3;", 1, 4);
        // 1a; 2a no, 2b; 3a, 3b and 3c no; when 2 has lost b, that is the smallest colour without a number, and c is not tried.
        dueFailure("numbers 3 4;equation 1 1 1 3;", 3, 6);
        dueFailure("numbers 3 3;equation 1 1 1 3;", 3, 6);
        dueFailure("numbers 3 2;equation 1 1 1 3;", 3, 5);
        // Colours without a number lie below and above those that a number has.
        dueExtend("numbers 3 4;equation 1 1 1 0;colour 1 2;", 3, 2, "caa");
        dueExtend("numbers 3 4;progression 3;colour 1 0;colour 2 0;", 3, 2, "aab");
        dueExtend("numbers 3 4;progression 3;colour 1 3;colour 2 3;", 3, 1, "dda");
        dueExtend("numbers 3 1;", 3, 3, "aaa");
    }

    private static void eachColourIsATrial() {
        CHECKS.of(0, "Each colour that is tried is a trial.");
        dueCanExtend(SCHUR, 1, 3000, 1);
        dueCanExtend(SCHUR, 2, 3000, 3);
        dueCanExtend(SCHUR, 3, 3000, 4);
        dueCanExtend(SCHUR, 4, 3000, 8);
        dueFailure(SCHUR, 5, 11);
    }

    private static void allowedColour() {
        CHECKS.of(0, "If the colour is allowed, the number gets it and the search goes on to the next one.");
        dueExtend("numbers 3 2;progression 3;", 3, 4, "aab");
        // The conflict 1, 2, 3 that is there before does not matter to 4, which may not make 2, 3, 4.
        dueExtend("numbers 4 2;progression 3;colour 1 0;colour 2 0;colour 3 0;", 4, 2, "aaab");
        dueExtend("numbers 9 2;progression 3;colour 1 0;colour 2 0;colour 3 0;", 4, 2, "aaab.....");
        CHECKS.of(0, "If it is not allowed, the next colour is tried.");
        dueExtend("numbers 3 4;progression 3;colour 1 0;colour 3 0;", 2, 2, "aba");
        dueExtend("numbers 5 4;progression 3;colour 1 0;colour 2 1;colour 4 1;colour 5 0;", 3, 3, "abcba");
    }

    private static void goingBack() {
        CHECKS.of(0, "If all colours have been tried in vain, the search goes back to the number before it, which loses its colour, and goes on there with the next colour.");
        dueExtend(SCHUR, 4, 8, "abba.");
        // 2a; 4a no (2, 3, 4), 4b no (4, 5, 6); from 4 it goes back to 2, for 3 has a colour: 2b, 4a
        dueExtend("numbers 6 2;progression 3;colour 1 1;colour 3 0;colour 5 1;colour 6 1;", 4, 5, "bbaabb");
        // 1a; 2a no, 2b; 3a no, 3b; 5a no, 5b no; 1b, for 4 has colour 0; 2a no, 2b no
        dueFailure("numbers 5 2;equation 1 1 1 0;colour 4 0;", 5, 10);
        // Without a colour of another number 1b is never tried.
        dueFailure(SCHUR, 5, 11);
        dueExtend("numbers 9 2;progression 3;", 8, 24, "aabbaabb.");
        dueExtend(LONG, 28, 3000, "aaabbbbbbbbbbaaaaaaaaaaaaaaa" + ".".repeat(10));
    }

    private static void success() {
        CHECKS.of(0, "The search succeeds when the last number has got a colour (at once, without a trial, if there are no such numbers); it fails when it would go back from the first one.");
        dueCanExtend("numbers 1 1;", 1, 1, 1);
        dueCanExtend("numbers 1 1;colour 1 0;", 1, 1, 0);
        dueCanExtend("numbers 1 1;colour 1 0;", 1, 3000, 0);
        dueCanExtend("numbers 1 1;" + HOPELESS + "colour 1 0 fixed;", 1, 1, 0);
        dueCanExtend("numbers 40 1;colour 1 0;colour 2 0;colour 3 0;progression 3;", 3, 1, 0);
        dueCanExtend("numbers 40 1;colour 1 0;colour 2 0;colour 3 0;progression 3;", 4, 1, FAILS);
        dueFailure("numbers 1 1;" + HOPELESS, 1, 1);
        dueFailure("numbers 40 1;" + HOPELESS, 40, 1);
        dueFailure("numbers 3 1;progression 3;", 3, 3);
        dueFailure(LONG_FAILURE, 18, 3000);
        dueCanExtend(LONG_FAILURE, 17, 3000, 392);
    }

    private static void givenUp() {
        CHECKS.of(0, "It is given up when a trial would be made beyond the greatest number of trials.");
        int[] needed = {1, 3, 4, 8};
        for (int trials = 1; trials <= 13; trials++) {
            for (int to = 1; to <= 4; to++) {
                dueCanExtend(SCHUR, to, trials, trials >= needed[to - 1] ? needed[to - 1] : GIVEN_UP);
            }
            dueCanExtend(SCHUR, 5, trials, trials >= 11 ? FAILS : GIVEN_UP);
        }
        dueCanExtend(LONG, 28, 3000, 3000);
        dueCanExtend(LONG, 28, 2999, GIVEN_UP);
        dueCanExtend(LONG, 29, 3000, GIVEN_UP);
        dueCanExtend(LONG, 38, 3000, GIVEN_UP);
        dueCanExtend(LONG_FAILURE, 18, 3000, FAILS);
        dueCanExtend(LONG_FAILURE, 18, 2999, GIVEN_UP);
        dueCanExtend(LONGER_FAILURE, 15, 3000, GIVEN_UP);
    }

    private static void withoutChange() {
        CHECKS.of(17, "Makes the search from 1 to a number without changing the colouring, beginning with the present one.");
        SumColouring x = Checks.loaded(SCHUR);
        String before = Checks.state(x);
        for (int trials : new int[] {1, 8, 11, 3000}) {
            for (int to = 1; to <= 5; to++) {
                x.canExtend(to, trials);
                CHECKS.due("the state after canExtend(" + to + ", " + trials + ")", Checks.state(x), before);
            }
        }
        CHECKS.due("canExtend is no change", x.undo(), 0);
        SumColouring y = Checks.loaded(SCHUR);
        y.setColour(4, 0);
        CHECKS.due("with 4 of colour 0", y.canExtend(3, 3000), 5);
        y.setColour(3, 1);
        CHECKS.due("with 3 of colour 1 too", y.canExtend(3, 3000), 3);
        y.setColour(1, 0);
        CHECKS.due("with 1 of colour 0 too", y.canExtend(3, 3000), 2);
        y.setColour(2, 1);
        CHECKS.due("with 2 of colour 1 too", y.canExtend(4, 3000), 0);
    }

    private static void canExtendAnswers() {
        CHECKS.of(17, "Returns the number of trials with which it succeeds; -1 if it fails; -2 if it is given up.");
        dueCanExtend(SCHUR, 4, 9, 8);
        dueCanExtend(SCHUR, 5, 11, -1);
        dueCanExtend(SCHUR, 5, 10, -2);
        CHECKS.of(17, "- `to`: 1 to n");
        dueCanExtend("numbers 40 1;", 1, 3000, 1);
        dueCanExtend("numbers 40 1;", 40, 3000, 40);
        CHECKS.of(17, "- `trials`: the greatest number of trials, 1 to 3000");
        dueCanExtend("numbers 40 1;", 1, 1, 1);
        dueCanExtend("numbers 40 1;", 2, 1, -2);
        dueCanExtend(LONG, 28, 3000, 3000);
    }

    private interface Search {
        long call(SumColouring x, int to, int trials);
    }

    private static void dueNoSuchNumber(Search search) {
        SumColouring empty = new SumColouring();
        SumColouring x = Checks.loaded("numbers 39 2;progression 3;colour 39 1;");
        for (int trials : new int[] {1, 3000, 0, 3001, -1, Integer.MAX_VALUE, Integer.MIN_VALUE}) {
            for (int to : new int[] {1, 0, -1, 40, Integer.MAX_VALUE, Integer.MIN_VALUE}) {
                CHECKS.dueRefused("of " + to + ", " + trials + " without numbers", NO_INDEX, empty, () -> search.call(empty, to, trials));
            }
            for (int to : new int[] {0, -1, 40, 41, 64, 65, -63, Integer.MAX_VALUE, Integer.MIN_VALUE}) {
                CHECKS.dueRefused("of " + to + ", " + trials, NO_INDEX, x, () -> search.call(x, to, trials));
            }
        }
        CHECKS.due("none of them is a change", x.undo(), 0);
    }

    private static void dueNoSuchTrials(Search search) {
        SumColouring x = Checks.loaded("numbers 40 2;progression 3;colour 39 1;");
        for (int trials : new int[] {0, -1, 3001, 6000, Integer.MAX_VALUE, Integer.MIN_VALUE}) {
            for (int to : new int[] {1, 39, 40}) {
                CHECKS.dueRefused("of " + to + ", " + trials, NO_ARGUMENT, x, () -> search.call(x, to, trials));
            }
        }
        CHECKS.due("none of them is a change", x.undo(), 0);
    }

    private static void canExtendArguments() {
        CHECKS.of(17, "Throws `IndexOutOfBoundsException` if there is no such number");
        dueNoSuchNumber((x, to, trials) -> x.canExtend(to, trials));
        CHECKS.of(17, "Throws `IllegalArgumentException` if trials is out of range");
        dueNoSuchTrials((x, to, trials) -> x.canExtend(to, trials));
    }

    private static void longestFromNothing() {
        CHECKS.of(18, "Makes the search from 1 to n, beginning with a colouring in which no number has a colour, and looks how far it comes.");
        int[] due = {1, 1, 2, 3, 3, 3, 3, 4, 4, 4, 4, 4};
        String[] colours = {"", "colour 1 1 fixed;colour 2 1;", "colour 3 0;", "colour 1 0;colour 2 0;colour 3 0;colour 4 0;colour 5 0 fixed;"};
        for (String present : colours) {
            SumColouring x = Checks.loaded(SCHUR + present);
            String before = Checks.state(x);
            for (int trials = 1; trials <= due.length; trials++) {
                CHECKS.due("longest(" + trials + ") with \"" + present + "\"", x.longest(trials), due[trials - 1]);
            }
            CHECKS.due("longest(3000) with \"" + present + "\"", x.longest(3000), 4);
            CHECKS.due("the state after it", Checks.state(x), before);
            CHECKS.due("longest is no change", x.undo(), 0);
        }
    }

    private static void longestAnswers() {
        CHECKS.of(18, "Returns the greatest number up to which all numbers had colours at some moment of the search; 0 if there are no numbers.");
        CHECKS.due("without numbers", new SumColouring().longest(3000), 0);
        CHECKS.due("one number", Checks.loaded("numbers 1 1;").longest(1), 1);
        CHECKS.due("one number without an allowed colour", Checks.loaded("numbers 1 4;" + HOPELESS).longest(3000), 0);
        CHECKS.due("40 numbers without an allowed colour", Checks.loaded("numbers 40 4;" + HOPELESS).longest(3000), 0);
        CHECKS.due("up to n", Checks.loaded("numbers 40 4;").longest(3000), 40);
        CHECKS.due("up to n with just enough trials", Checks.loaded("numbers 40 4;").longest(40), 40);
        CHECKS.due("up to n with a trial too few", Checks.loaded("numbers 40 4;").longest(39), 39);
        // The search comes up to 7 with the trial 10, goes back, and comes up to 8 with the trial 24; then it fails.
        SumColouring x = Checks.loaded("numbers 9 2;progression 3;");
        CHECKS.due("9 trials", x.longest(9), 6);
        CHECKS.due("10 trials", x.longest(10), 7);
        CHECKS.due("23 trials", x.longest(23), 7);
        CHECKS.due("24 trials", x.longest(24), 8);
        CHECKS.due("3000 trials", x.longest(3000), 8);
        CHECKS.due("a search that is given up", Checks.loaded(LONG).longest(3000), 28);
        CHECKS.due("a trial less", Checks.loaded(LONG).longest(2999), 27);
        CHECKS.due("a search that fails", Checks.loaded(LONG_FAILURE).longest(3000), 17);
    }

    private static void longestArguments() {
        CHECKS.of(18, "- `trials`: the greatest number of trials, 1 to 3000");
        CHECKS.due("longest(1)", Checks.loaded("numbers 40 1;").longest(1), 1);
        CHECKS.due("longest(3000)", Checks.loaded("numbers 40 1;").longest(3000), 40);
        CHECKS.of(18, "Throws `IllegalArgumentException` if trials is out of range");
        SumColouring empty = new SumColouring();
        SumColouring x = Checks.loaded("numbers 40 2;progression 3;colour 39 1;");
        for (int trials : new int[] {0, -1, 3001, 6000, Integer.MAX_VALUE, Integer.MIN_VALUE}) {
            CHECKS.dueRefused("longest(" + trials + ")", NO_ARGUMENT, x, () -> x.longest(trials));
            CHECKS.dueRefused("longest(" + trials + ") of a new object", NO_ARGUMENT, empty, () -> empty.longest(trials));
        }
    }

    private static void extendKeeps() {
        CHECKS.of(23, "Makes the search from 1 to a number, beginning with the present colouring, and keeps the colours that it gives if it succeeds.");
        SumColouring x = Checks.loaded("numbers 6 3;equation 1 1 1 0;colour 1 2 fixed;colour 4 2;");
        CHECKS.due("extend(1, 1)", x.extend(1, 1), 0);
        CHECKS.due("extend(3, 9)", x.extend(3, 9), 2);
        CHECKS.due("picture", Checks.picture(x), "Caac..");
        CHECKS.due("extend(5, 9)", x.extend(5, 9), 2);
        CHECKS.due("picture", Checks.picture(x), "Caacb.");
        CHECKS.due("extend(6, 9)", x.extend(6, 9), 2);
        CHECKS.due("picture", Checks.picture(x), "Caacbb");
        CHECKS.due("extend(6, 1) again", x.extend(6, 1), 0);
        CHECKS.due("undo of the extend at once", x.undo(), 5);
        CHECKS.due("undo of the one before", x.undo(), 4);
        CHECKS.due("picture", Checks.picture(x), "Caacb.");
    }

    private static void extendOtherwise() {
        CHECKS.of(23, "Otherwise nothing changes.");
        SumColouring x = Checks.loaded(SCHUR);
        String before = Checks.state(x);
        int[][] calls = {{5, 11, -1}, {5, 3000, -1}, {5, 10, -2}, {4, 7, -2}, {2, 1, -2}, {5, 1, -2}};
        for (int[] call : calls) {
            CHECKS.due("extend(" + call[0] + ", " + call[1] + ")", x.extend(call[0], call[1]), call[2]);
            CHECKS.due("the state after it", Checks.state(x), before);
        }
        CHECKS.due("none of them is a change", x.undo(), 0);
    }

    private static void extendAnswers() {
        CHECKS.of(23, "Returns as for canExtend.");
        for (String text : new String[] {SCHUR, SCHUR + "colour 4 0;", SCHUR + "colour 2 1 fixed;", "numbers 5 4;progression 3;colour 5 3;"}) {
            for (int to = 1; to <= 5; to++) {
                for (int trials : new int[] {1, 2, 3, 4, 5, 7, 8, 10, 11, 3000}) {
                    SumColouring x = Checks.loaded(text);
                    int due = x.canExtend(to, trials);
                    CHECKS.due("extend(" + to + ", " + trials + ") of " + text, x.extend(to, trials), due);
                }
            }
        }
        CHECKS.due("extend with 3000 trials", Checks.loaded(LONG).extend(28, 3000), 3000);
        CHECKS.due("extend with 3001 trials", Checks.loaded(LONG).extend(29, 3000), -2);
        CHECKS.due("extend that fails after 3000 trials", Checks.loaded(LONG_FAILURE).extend(18, 3000), -1);
    }

    private static void extendArguments() {
        CHECKS.of(23, "- `to`: 1 to n");
        dueExtend("numbers 40 1;", 1, 1, "a" + ".".repeat(39));
        dueExtend("numbers 40 1;", 40, 40, "a".repeat(40));
        CHECKS.of(23, "- `trials`: the greatest number of trials, 1 to 3000");
        CHECKS.due("extend(1, 1)", Checks.loaded("numbers 40 1;").extend(1, 1), 1);
        CHECKS.due("extend(2, 1)", Checks.loaded("numbers 40 1;").extend(2, 1), -2);
        CHECKS.of(23, "Throws `IndexOutOfBoundsException` if there is no such number");
        dueNoSuchNumber((x, to, trials) -> x.extend(to, trials));
        CHECKS.of(23, "Throws `IllegalArgumentException` if trials is out of range");
        dueNoSuchTrials((x, to, trials) -> x.extend(to, trials));
    }
}
