import java.util.function.Supplier;

/** What the tests of boundary cases share: setups of the smallest and the greatest size, and calls that are refused. */
abstract class Boundary {
    interface Call {
        Object on(CardLoom x);
    }

    interface CallWith {
        Object on(CardLoom x, int argument);
    }

    /** No cards, no picks, no rows, no yarn. */
    static final String LEAST = "loom 2 1;warp a 0";

    /** One warp, one card, one pick and one row; harness 0 is stuck, warp 0 is broken. */
    static final String ONE = "loom 2 1;warp a 0;card b 0;deck 0;yarn b 9;strain 1;weave 1";

    /** As much of everything as there can be: harnesses, warps, cards, picks and rows. */
    static final String MOST = "loom 8 200;warp a 0 1 2 3 4 5 6 7;warp b 0 1 2 3 4 5 6 7;warp f 0 1 2 3 4 5 6 7;"
            + "card a;card b 0;card c 1;card d 2;card e 3;card f 4;card a 5;card b 6;card c 7;card d 0 1;"
            + "card e 0 1 2 3 4 5 6 7;card f 7 0;deck repeat 8(0 1 2 3 4 5 6 7 8 9 10 11)0 1 2 3;"
            + "yarn a 300;yarn b 300;yarn c 300;yarn d 300;yarn e 300;yarn f 300;weave 60";

    static final int[] FAR = {Integer.MIN_VALUE, -1000, -33, -32, -8, -2, -1, 2, 6, 8, 9, 12, 13, 24, 25, 31, 32, 33,
            60,
        61, 63, 64, 100, 101, 255, 256, 500, 1000, 65536, 1 << 30, Integer.MAX_VALUE - 1, Integer.MAX_VALUE};

    static CardLoom loom(String setup) {
        return Given.loom(setup);
    }

    static void valid(String setup, int picks) {
        CardLoom x = new CardLoom();
        int got;
        try {
            got = Given.parse(x, setup);
        } catch (IllegalArgumentException e) {
            got = -1000 * x.parseErrorCode() - x.parseErrorPosition();
        }
        Check.same("valid: " + setup, got, picks);
        Check.same("no error: " + setup, x.parseErrorCode() + " " + x.parseErrorPosition(), "0 -1");
    }

    /** The token with the error begins behind the first text. */
    static void error(int code, String before, String tail) {
        CardLoom x = new CardLoom();
        Check.fails("invalid: " + before + tail, Check.ARGUMENT, () -> Given.parse(x, before + tail));
        Check.same("code: " + before + tail, x.parseErrorCode(), code);
        Check.same("position: " + before + tail, x.parseErrorPosition(), before.length());
        Check.fails("nothing is loaded: " + before + tail, Check.STATE, x::harnessCount);
    }

    /** The call throws this very exception, and all answers stay as they were. */
    static void refused(String what, CardLoom x, Class<? extends RuntimeException> due, Call call) {
        String before = Answers.of(x);
        Check.fails(what, due, () -> call.on(x));
        Check.same("nothing is changed by " + what, Answers.of(x), before);
    }

    /** Without a setup, both on a new object and where setups were refused. */
    static void needsSetup(Call call) {
        refused("a new object", new CardLoom(), Check.STATE, call);
        CardLoom x = new CardLoom();
        Check.fails("a setup without warps", Check.ARGUMENT, () -> Given.parse(x, "loom 2 9"));
        Given.append(x, LEAST);
        refused("refused setups and an unread one", x, Check.STATE, call);
        x.parseSetup(LEAST.length());
        Check.same("a setup", x.harnessCount(), 2);
    }

    /** The same for a call with an argument, be it in range or not: the missing setup is told first. */
    static void needsSetup(CallWith call) {
        needsSetup(x -> call.on(x, 0));
        needsSetup(x -> call.on(x, -1));
        needsSetup(x -> call.on(x, Integer.MAX_VALUE));
    }

    /** Of a loom from the setup, exactly the indices 0 to count - 1 are taken. */
    static void takesIndices(String setup, int count, CallWith call) {
        takes(setup, 0, count - 1, Check.INDEX, call);
    }

    static void takesRange(String setup, int least, int greatest, CallWith call) {
        takes(setup, least, greatest, Check.ARGUMENT, call);
    }

    private static void takes(String setup, int least, int greatest, Class<? extends RuntimeException> due,
            CallWith call) {
        for (int argument : FAR) {
            takesOrNot(setup, argument, least, greatest, due, call);
        }
        for (int near = least - 1; near <= least + 1; near++) {
            takesOrNot(setup, near, least, greatest, due, call);
        }
        for (int near = greatest - 1; near <= greatest + 1; near++) {
            takesOrNot(setup, near, least, greatest, due, call);
        }
    }

    private static void takesOrNot(String setup, int argument, int least, int greatest,
            Class<? extends RuntimeException> due, CallWith call) {
        CardLoom x = loom(setup);
        if (argument < least || argument > greatest) {
            refused("the argument " + argument + " with " + setup, x, due, made -> call.on(made, argument));
        } else {
            Object got = null;
            try {
                call.on(x, argument);
            } catch (RuntimeException e) {
                got = e;
            }
            Check.same("the argument " + argument + " with " + setup, got, null);
        }
    }

    // ---- sentences that many promises have

    static void promise(int number) {
        Sentence.in("Promise " + number);
    }

    /** A sentence that one comparison holds. */
    static void sentence(String firstWords, Supplier<Object> got, Object due) {
        Sentence.holds(firstWords, () -> Check.same("", got.get(), due));
    }

    static void needsSetupAnd(Call call) {
        Sentence.holds("Throws IllegalStateException if no setup has been loaded", () -> needsSetup(call));
    }

    static void needsSetupAndTakes(CallWith call) {
        Sentence.holds("Throws IllegalStateException if no setup has been loaded", () -> needsSetup(call));
    }

    static void noSuchWarp(CallWith call) {
        Sentence.holds("Throws IndexOutOfBoundsException if there is no such warp", () -> {
            takesIndices(LEAST, 1, call);
            takesIndices(Given.SAMPLE, 8, call);
            takesIndices(MOST, 24, call);
        });
    }

    static void noSuchHarness(CallWith call) {
        Sentence.holds("Throws IndexOutOfBoundsException if there is no such harness", () -> {
            takesIndices(LEAST, 2, call);
            takesIndices(Given.SAMPLE, 4, call);
            takesIndices(MOST, 8, call);
        });
    }

    static void noSuchCard(CallWith call) {
        Sentence.holds("Throws IndexOutOfBoundsException if there is no such card", () -> {
            takesIndices(LEAST, 0, call);
            takesIndices(ONE, 1, call);
            takesIndices(Given.SAMPLE, 3, call);
            takesIndices(MOST, 12, call);
        });
    }

    static void noSuchRow(CallWith call) {
        Sentence.holds("Throws IndexOutOfBoundsException if there is no such row", () -> {
            takesIndices(LEAST, 0, call);
            takesIndices(ONE, 1, call);
            takesIndices(ONE + ";unweave 1", 0, call);
            takesIndices(MOST + ";unweave 1", 59, call);
            takesIndices(MOST, 60, call);
        });
    }

    static void noSuchColour(CallWith call) {
        Sentence.holds("Throws IllegalArgumentException if colour is out of range", () -> {
            takesRange(ONE, 0, 5, call);
            takesRange(MOST, 0, 5, call);
        });
    }
}
