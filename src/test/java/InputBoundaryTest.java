/** The sentences of promises 1 to 6: a new object, the input buffer and the parsing of setups. */
final class InputBoundaryTest extends Boundary {
    public static void main(String[] args) {
        promise1();
        promise2();
        promise3();
        promises4And5();
        promise6();
        Sentence.end("InputBoundaryTest");
    }

    private static void promise1() {
        Sentence.in("Promise 1");
        Sentence.holds("Creates a loom without a setup", () -> {
            CardLoom other = loom(MOST);
            Given.append(other, LEAST);
            CardLoom x = new CardLoom();
            Check.same("an empty buffer", x.bufferLength(), 0);
            Check.fails("no setup", Check.STATE, x::harnessCount);
            Check.fails("nothing to parse", Check.INDEX, () -> x.parseSetup(1));
            Check.same("no error", x.parseErrorCode() + " " + x.parseErrorPosition(), "0 -1");
            Check.same("nothing to undo", x.undoCount(), 0);
            Check.same("no output", Answers.outputOf(x), "output .");
        });
    }

    // ---- append

    /** The position of the first byte that starts no token, behind spaces alone. */
    private static int positionOfError(CardLoom x) {
        Check.fails("a setup of one sign", Check.ARGUMENT, () -> x.parseSetup(x.bufferLength()));
        return x.parseErrorPosition();
    }

    /** A byte in the argument of this index is found at the four bytes from 4 * index on. */
    private static void bytesOf(int index) {
        for (int k = 0; k < 4; k++) {
            for (int sign : new int[] {0, 1, '!', 127, 128, 200, 255}) {
                int[] five = {0x20202020, 0x20202020, 0x20202020, 0x20202020, 0x20202020};
                int shift = 24 - 8 * k;
                five[index] = five[index] & ~(255 << shift) | sign << shift;
                CardLoom x = new CardLoom();
                x.append(five[0], five[1], five[2], five[3], five[4]);
                Check.same("the sign " + sign + " in byte " + k, positionOfError(x), 4 * index + k);
            }
        }
    }

    private static void promise2() {
        Sentence.in("Promise 2");
        Sentence.holds("Appends twenty bytes to the input buffer", () -> {
            CardLoom x = new CardLoom();
            // "loom 8 200;warp c 7 " and "6;card f 5 4;deck 0 "
            x.append(0x6c6f6f6d, 0x20382032, 0x30303b77, 0x61727020, 0x63203720);
            x.append(0x363b6361, 0x72642066, 0x20352034, 0x3b646563, 0x6b203020);
            Check.same("forty bytes", x.bufferLength() + " " + x.parseSetup(40), "40 1");
            Check.same("in their order", x.warpHarness(0) + " " + x.warpHarness(1) + " " + Given.card(x, 0),
                    "7 6 ....oo.. f");
        });
        String[] arguments = {"a: bytes 0 to 3", "b: bytes 4 to 7", "c: bytes 8 to 11", "d: bytes 12 to 15",
                "e: bytes 16 to 19"};
        for (int i = 0; i < 5; i++) {
            int index = i;
            Sentence.holds(arguments[i], () -> bytesOf(index));
        }
        Sentence.holds("Returns the new length of the buffer; NONE if", () -> {
            CardLoom x = new CardLoom();
            for (int n = 1; n <= 25; n++) {
                int last = n == 25 ? 0x20202021 : 0x20202020;
                Check.same("append " + n, x.append(0x20202020, 0x20202020, 0x20202020, 0x20202020, last), 20 * n);
                Check.same("the length", x.bufferLength(), 20 * n);
            }
            for (int n = 0; n < 3; n++) {
                Check.same("one more", x.append(0x21212121, 0x21212121, 0x21212121, 0x21212121, 0x21212121),
                        CardLoom.NONE);
                Check.same("nothing is appended", x.bufferLength(), 500);
            }
            Check.same("the bytes stay, the last of them, too", positionOfError(x), 499);
            Check.same("room again", x.append(0, 0, 0, 0, 0), 20);
        });
    }

    // ---- parseSetup

    private static void promise3() {
        Sentence.in("Promise 3");
        Sentence.holds("Parses the first bytes of the input buffer", InputBoundaryTest::firstBytes);
        Sentence.holds("The buffer is empty afterwards", () -> {
            CardLoom x = new CardLoom();
            for (int length = 0; length <= 40; length++) {
                Given.append(x, "loom 2 9;warp a 0   ;card a;!           ");
                int parsed = length;
                try {
                    x.parseSetup(parsed);
                } catch (IllegalArgumentException e) {
                    Check.same("an error at " + parsed, x.parseErrorCode() > 0, true);
                }
                Check.same("parsed " + parsed + " of 40 bytes", x.bufferLength(), 0);
                Check.fails("none of them is left", Check.INDEX, () -> x.parseSetup(1));
            }
        });
        Sentence.holds("If it is valid, the undo history and both saved states are cleared.", () -> {
            CardLoom x = loom(ONE);
            x.saveState(0);
            x.saveState(1);
            x.bringYarn(0, 1);
            Check.fails("an invalid setup", Check.ARGUMENT, () -> Given.parse(x, LEAST + ";"));
            Check.same("history and states stay", x.undoCount() + " " + x.restoreState(0) + x.restoreState(1), "1 11");
            x.bringYarn(0, 1);
            Given.parse(x, ONE);
            Check.same("no history", x.undoCount(), 0);
            Check.fails("nothing to undo", Check.STATE, x::undo);
            refused("no state in slot 0", x, Check.STATE, y -> y.restoreState(0));
            refused("no state in slot 1", x, Check.STATE, y -> y.restoreState(1));
        });
        Sentence.holds("length: number of bytes to parse", () -> {
            String setup = "loom 2 9;warp a 0 01;card ab";
            CardLoom x = new CardLoom();
            String[] due = {"1 0", "1 0", "1 0", "1 0", "1 4", "1 5", "1 6", "1 7", "4 8", "1 9", "1 9", "1 9", "1 9",
                    "1 13", "1 14",
                "1 15", "1 16", "0 -1", "0 -1", "0 -1", "0 -1", "1 21", "1 21", "1 21", "1 21", "1 25", "1 26", "0 -1",
                "1 26"};
            for (int length = 0; length < due.length; length++) {
                Given.append(x, setup);
                try {
                    x.parseSetup(length);
                } catch (IllegalArgumentException e) {
                    Check.same("refused", x.parseErrorCode() > 0, true);
                }
                Check.same("the first " + length, x.parseErrorCode() + " " + x.parseErrorPosition(), due[length]);
            }
            Given.append(x, setup);
            Check.same("a number cut off", x.parseSetup(19) + " " + x.warpHarness(1), "0 0");
            Given.append(x, setup);
            Check.same("the number whole", x.parseSetup(20) + " " + x.warpHarness(1), "0 1");
        });
        Sentence.holds("Returns the number of picks of the deck.", () -> {
            Check.same("none", Given.parse(new CardLoom(), LEAST), 0);
            Check.same("one", Given.parse(new CardLoom(), ONE), 1);
            Check.same("the most", Given.parse(new CardLoom(), MOST), 100);
        });
        Sentence.holds("Throws IndexOutOfBoundsException if length is negative", InputBoundaryTest::badLengths);
        Sentence.holds("Throws IllegalArgumentException if the setup is invalid", InputBoundaryTest::invalidSetups);
    }

    private static void firstBytes() {
        CardLoom x = new CardLoom();
        Given.append(x, LEAST + "!!!!!");
        Check.same("what follows is not read", x.parseSetup(LEAST.length()), 0);
        String full = "loom 2 9;warp a 0" + Given.repeated(" ", 482) + "1";
        Check.same("five hundred bytes", Given.parse(x, full) + " " + full.length() + " " + x.warpCount(), "0 500 2");
        Given.append(x, full);
        Check.same("all but the last of them", x.parseSetup(499) + " " + x.warpCount(), "0 1");
        for (String next : new String[] {LEAST, ONE, MOST, Given.SAMPLE, LEAST, MOST, ONE, LEAST, LEAST}) {
            Check.fails("a setup that ends in brackets", Check.ARGUMENT,
                    () -> Given.parse(x, Given.SAMPLE + ";strain 1;motor 1;deck 0 back(1 mirror(0 repeat 2(1"));
            Given.parse(x, next);
            CardLoom alone = loom(next);
            Check.same("the parts of its deck: " + next, Given.deck(x), Given.deck(alone));
            Check.same("it replaces the loom: " + next, Answers.of(x), Answers.of(alone));
            x.bringYarn(0, 999);
            x.weave(60);
        }
    }

    private static void badLengths() {
        CardLoom none = new CardLoom();
        for (int bad : new int[] {-1, 1, 20, 500, Integer.MIN_VALUE, Integer.MAX_VALUE}) {
            refused("of an empty buffer " + bad, none, Check.INDEX, x -> x.parseSetup(bad));
        }
        Check.fails("0 is not greater than an empty buffer's length", Check.ARGUMENT, () -> none.parseSetup(0));
        CardLoom x = loom(ONE);
        Check.fails("a parse error", Check.ARGUMENT, () -> Given.parse(x, "loom 9 9"));
        x.bringYarn(0, 1);
        x.saveState(0);
        for (int length = 20; length <= 500; length += 20) {
            x.append(0x20202020, 0x20202020, 0x20202020, 0x20202020, 0x20202020);
            for (int bad : new int[] {-1, length + 1, length + 20, 501, Integer.MIN_VALUE, Integer.MAX_VALUE}) {
                refused("of " + length + " bytes " + bad, x, Check.INDEX, y -> y.parseSetup(bad));
            }
        }
        Check.same("the error of before", x.parseErrorCode() + " " + x.parseErrorPosition(), "2 5");
        Check.fails("the length itself", Check.ARGUMENT, () -> x.parseSetup(500));
        Check.same("is parsed", x.parseErrorCode() + " " + x.parseErrorPosition(), "1 500");
    }

    private static void invalidSetups() {
        String[] invalid = {"", "loom", "loom 2 9", "loom 9 9", "loom 2 9;warp a 0 2", MOST + ";oil 8",
                MOST + ";warp a 0",
            MOST + ";card a", ONE + ";unweave 2", ONE + ";mend 0;mend 0", ONE + ";unweave 1;deck back(0 back(0",
                    Given.SAMPLE + ";"};
        for (String before : new String[] {LEAST, ONE, MOST}) {
            CardLoom x = loom(before);
            x.writeDeck();
            x.bringYarn(2, 2);
            x.saveState(1);
            String loom = Answers.ofTheLoom(x);
            for (String setup : invalid) {
                Check.fails("invalid: " + setup, Check.ARGUMENT, () -> Given.parse(x, setup));
                Check.same("the loom stays after: " + setup, Answers.ofTheLoom(x), loom);
            }
            Check.same("a change of before", x.undoCount() + " " + x.undo(), "1 0");
            Check.same("is undone", x.yarn(2), loom(before).yarn(2));
            Check.same("a state of before", x.restoreState(1), x.rowCount());
            Check.same("is restored", Answers.ofTheLoom(x), loom);
        }
        CardLoom none = new CardLoom();
        for (String setup : invalid) {
            Check.fails("invalid: " + setup, Check.ARGUMENT, () -> Given.parse(none, setup));
            Check.fails("no loom yet", Check.STATE, none::harnessCount);
        }
    }

    // ---- errors and lengths

    private static String errorOf(CardLoom x, String setup) {
        try {
            Given.parse(x, setup);
        } catch (IllegalArgumentException e) {
            Check.same("a code", x.parseErrorCode() > 0, true);
        }
        return x.parseErrorCode() + " " + x.parseErrorPosition();
    }

    private static void promises4And5() {
        Sentence.in("Promise 4");
        Sentence.holds("Returns the error code of the latest call", () -> {
            CardLoom x = new CardLoom();
            String[][] calls = {{"loom 9", "2"}, {"loom 2 9", "4"}, {LEAST, "0"}, {"", "1"}, {LEAST + ";mend 0", "3"},
                    {MOST, "0"}};
            for (String[] call : calls) {
                errorOf(x, call[0]);
                Check.same("of " + call[0], x.parseErrorCode(), Integer.parseInt(call[1]));
                Check.fails("a bad length", Check.INDEX, () -> x.parseSetup(1));
                Check.fails("another one", Check.INDEX, () -> x.parseSetup(-1));
                Check.same("still of " + call[0], x.parseErrorCode(), Integer.parseInt(call[1]));
            }
        });
        Sentence.holds("Returns one of the error constants; 0 if", () -> {
            CardLoom x = new CardLoom();
            Check.same("no call", x.parseErrorCode(), 0);
            Check.fails("a bad length", Check.INDEX, () -> x.parseSetup(1));
            Check.same("no such call", x.parseErrorCode(), 0);
            errorOf(x, "!");
            Check.same("syntax", x.parseErrorCode(), CardLoom.SYNTAX_ERROR);
            errorOf(x, "loom 9");
            Check.same("range", x.parseErrorCode(), CardLoom.RANGE_ERROR);
            errorOf(x, LEAST + ";mend 0");
            Check.same("conflict", x.parseErrorCode(), CardLoom.CONFLICT_ERROR);
            errorOf(x, "loom 2 9");
            Check.same("limit", x.parseErrorCode(), CardLoom.LIMIT_ERROR);
            errorOf(x, LEAST);
            Check.same("success", x.parseErrorCode(), 0);
        });
        Sentence.in("Promise 5");
        Sentence.holds("Returns the position of the error of that call.", () -> {
            CardLoom x = new CardLoom();
            errorOf(x, "loom 9");
            Check.fails("a bad length", Check.INDEX, () -> x.parseSetup(1));
            Check.same("a bad length leaves it", x.parseErrorPosition(), 5);
            Given.append(x, LEAST);
            x.undoCount();
            Check.same("append leaves it", x.parseErrorPosition(), 5);
            x.parseSetup(LEAST.length());
            Check.same("success", x.parseErrorPosition(), CardLoom.NONE);
        });
        Sentence.holds("Returns index of the first byte of the token with the error", InputBoundaryTest::positions);
    }

    private static void positions() {
        CardLoom x = new CardLoom();
        Check.same("no call", x.parseErrorPosition(), CardLoom.NONE);
        Check.fails("a bad length", Check.INDEX, () -> x.parseSetup(1));
        Check.same("no such call", x.parseErrorPosition(), CardLoom.NONE);
        Check.same("the first byte", errorOf(x, "!"), "1 0");
        Check.same("the first byte of a long word", errorOf(x, "  abcdefghi"), "1 2");
        Check.same("the first byte of a long number", errorOf(x, "loom 1234"), "1 5");
        Check.same("the first of two tokens with errors", errorOf(x, "loom 1 0"), "2 5");
        Check.same("nothing", errorOf(x, ""), "1 0");
        Check.same("too early", errorOf(x, "loom 2"), "1 6");
        Check.same("too early, behind spaces", errorOf(x, "loom 2   "), "1 9");
        Check.same("too early, without warps", errorOf(x, "loom 2 9 "), "4 9");
        Given.append(x, "loom 2 9;warp a 0;!!");
        Check.fails("the first bytes", Check.ARGUMENT, () -> x.parseSetup(15));
        Check.same("the parsed bytes alone count", x.parseErrorCode() + " " + x.parseErrorPosition(), "1 15");
        Check.same("the last byte", errorOf(x, Given.repeated(" ", 499) + "!"), "1 499");
        Check.same("behind the last byte", errorOf(x, Given.repeated(" ", 500)), "1 500");
        Check.same("behind a full buffer", errorOf(x, LEAST + ";" + Given.repeated(" ", 482)), "1 500");
        errorOf(x, LEAST);
        Check.same("none", x.parseErrorPosition(), CardLoom.NONE);
    }

    private static void promise6() {
        Sentence.in("Promise 6");
        Sentence.holds("Returns the number of bytes in the input buffer.", () -> {
            CardLoom x = new CardLoom();
            x.append(0, 0, 0, 0, 0);
            Check.same("zero bytes, too", x.bufferLength(), 20);
            x.append(0x20202020, 0x20202020, 0x20202020, 0x20202020, 0x20202020);
            Check.same("spaces, too", x.bufferLength(), 40);
            errorOf(x, LEAST);
            Check.same("none after parsing", x.bufferLength(), 0);
        });
        Sentence.holds("Returns the length, 0 to 500.", () -> {
            CardLoom x = new CardLoom();
            Check.same("the least", x.bufferLength(), 0);
            for (int n = 1; n <= 30; n++) {
                x.append(n, n, n, n, n);
                Check.same("after " + n, x.bufferLength(), Math.min(20 * n, 500));
            }
        });
    }
}
