/** Promises 1 to 6: a new object, the input buffer, and what parseSetup answers and leaves. */
final class InputTest {
    public static void main(String[] args) {
        newObject();
        append();
        parseSetup();
        nothingIsLeftOfEarlierSetups();
        parseErrors();
        Check.end("InputTest");
    }

    private static void newObject() {
        CardLoom x = new CardLoom();
        Check.same("1: an empty buffer", x.bufferLength(), 0);
        Check.same("1: no error code", x.parseErrorCode(), 0);
        Check.same("1: no error position", x.parseErrorPosition(), CardLoom.NONE);
        Check.same("1: nothing to undo", x.undoCount(), 0);
        Check.fails("1: no setup", Check.STATE, x::rowCount);
        Check.fails("1: no output", Check.INDEX, () -> x.outputByte(0));
    }

    private static void append() {
        CardLoom x = new CardLoom();
        for (int n = 1; n <= 25; n++) {
            Check.same("2: append " + n, x.append(0x20202020, 0, -1, 0x80ff0001, n), n * 20);
        }
        Check.same("2: a 26th append", x.append(1, 2, 3, 4, 5), CardLoom.NONE);
        Check.same("2, 6: a full buffer", x.bufferLength(), 500);

        CardLoom order = new CardLoom();
        // "loom", " 2 9", ";war", "p b ", "1;  ", and nothing behind byte 17.
        Check.same("2: bytes in order",
                order.append(0x6c6f6f6d, 0x20322039, 0x3b776172, 0x70206220, 0x313b2020), 20);
        Check.same("3: a setup without picks", order.parseSetup(17), 0);
        Check.same("2: last bytes", order.warpHarness(0), 1);

        CardLoom high = new CardLoom();
        high.append(0x6c6f6f6d, 0xa0322039, 0, 0, 0);
        Check.fails("2: a byte above 127", Check.ARGUMENT, () -> high.parseSetup(8));
        Check.same("2: its error", high.parseErrorCode() * 100 + high.parseErrorPosition(), 104);
    }

    private static void parseSetup() {
        CardLoom x = new CardLoom();
        Given.append(x, Given.SAMPLE);
        int length = x.bufferLength();
        Check.fails("3: a negative length", Check.INDEX, () -> x.parseSetup(-1));
        Check.fails("3: a length over the buffer's", Check.INDEX, () -> x.parseSetup(length + 1));
        Check.same("3: the buffer stays", x.bufferLength(), length);
        Check.same("3: picks", x.parseSetup(length), 11);
        Check.same("3, 6: the buffer is empty", x.bufferLength(), 0);

        x.weave(2);
        x.saveState(1);
        Given.append(x, "loom 2 9;warp a 0;warp h 1");
        Check.fails("3: an invalid setup", Check.ARGUMENT, () -> x.parseSetup(26));
        Check.same("3: the buffer is empty, too", x.bufferLength(), 0);
        Check.same("3: the loom stays", x.harnessCount() * 100 + x.warpCount() * 10 + x.rowCount(), 482);
        Check.same("3: the deck stays", Given.picks(x), "0 1 0 2 0 2 0 1 2 1 0");
        Check.same("3: the history stays", x.undoCount(), 1);
        Check.same("3: saved states stay", x.restoreState(1), 2);
        Check.same("4: error code", x.parseErrorCode(), CardLoom.SYNTAX_ERROR);
        Check.same("5: error position", x.parseErrorPosition(), 23);
        Check.fails("3: index first", Check.INDEX, () -> x.parseSetup(1));
        Check.same("4: the latest error stays", x.parseErrorCode(), CardLoom.SYNTAX_ERROR);
        Check.same("5: its position stays", x.parseErrorPosition(), 23);

        x.weave(1);
        x.saveState(0);
        Check.same("3: another setup", Given.parse(x, "loom 3 7;warp b 2"), 0);
        Check.same("4: no error", x.parseErrorCode(), 0);
        Check.same("5: no position", x.parseErrorPosition(), CardLoom.NONE);
        Check.same("3: the new loom", x.harnessCount() * 100 + x.warpCount() * 10 + x.rowCount(), 310);
        Check.same("3: no cards are left", x.cardCount(), 0);
        Check.same("3: no parts are left", Given.deck(x), "-");
        Check.same("3: no yarn is left", x.yarn(2) + x.yarn(3), 0);
        Check.same("3: no wear is left", x.wear(0) + x.wear(1) + x.wear(2), 0);
        Check.same("3: nothing is lifted", x.isLifted(0) || x.isLifted(1) || x.isLifted(2), false);
        Check.same("3: the history is cleared", x.undoCount(), 0);
        Check.fails("3: slot 0 is cleared", Check.STATE, () -> x.restoreState(0));
        Check.fails("3: slot 1 is cleared", Check.STATE, () -> x.restoreState(1));

        CardLoom part = new CardLoom();
        Given.append(part, "loom 2 9;warp a 0 1;!!");
        Check.same("3: only the first bytes", part.parseSetup(19), 0);
        Check.same("3: a token that ends with the length", part.warpCount(), 2);
        Given.append(part, "loom 2 9;warp a 0 11");
        Check.same("3: a number cut off by the length", part.parseSetup(19), 0);
        Check.same("3: is what is left of it", part.warpHarness(1), 1);
        Given.append(part, "loom 2 9;warp a 0;card ab");
        Check.same("3: a word cut off by the length", part.parseSetup(24), 0);
        Check.same("3: is what is left of it", part.cardCount() * 10 + part.cardColour(0), 10);
    }

    private static void nothingIsLeftOfEarlierSetups() {
        String rich = "loom 8 1;warp f 7 7 0;card a 0 1 2 3 4 5 6 7;card b;deck 0 back(1 mirror(0));strain 1;"
                + "motor 3;yarn a 99;yarn b 99;weave 3;swap 0 1";
        CardLoom x = new CardLoom();
        Given.parse(x, rich);
        for (int n = 1; n <= 4; n++) {
            if (n == 3) {
                Check.fails("3: the rich setup, spoilt at its end", Check.ARGUMENT, () -> Given.parse(x, rich + ";oil 8"));
            }
            String what = "3: setup " + n + " ";
            Check.same(what, Given.parse(x, "loom 2 2;warp a 0 1;warp b 0 1"), 0);
            Check.same(what + "harnesses", x.harnessCount(), 2);
            Check.same(what + "warps", x.warpCount() + "," + x.brokenCount(), "4,0");
            Check.same(what + "cards", x.cardCount(), 0);
            Check.same(what + "deck", Given.deck(x) + "," + x.deckLength() + "," + x.deckDepth(), "-,0,0");
            Check.same(what + "rows", x.rowCount(), 0);
            Check.same(what + "harness", x.isLifted(0) + "," + x.wear(0) + "," + x.isStuck(0), "false,0,false");
            Check.same(what + "yarn", x.yarn(0) + "," + x.yarn(1), "0,0");
            Check.same(what + "invariants", x.imbalance(), 0);
            String same = "loom 2 9;warp a 0 0 1 1;card a 0 1;deck 0;yarn a 8;weave 2";
            Check.same(what + "of its own motor and strain", Given.parse(x, same) + "," + x.brokenCount(), "1,0");
            Check.same(what + "of its own cards", x.averageLifts(), 2.0);
            Check.fails(what + "spoilt in open brackets", Check.ARGUMENT, () -> Given.parse(x, same.replace("0;y", "back(0;y")));
            Check.same(what + "whole again", Given.parse(x, same.replace("deck 0", "deck 0 back(0)")), 2);
            Given.parse(x, same);
        }
    }

    private static void parseErrors() {
        CardLoom x = new CardLoom();
        Check.fails("3: an empty setup", Check.ARGUMENT, () -> x.parseSetup(0));
        Check.same("4: of an empty setup", x.parseErrorCode(), 1);
        Check.same("5: of an empty setup", x.parseErrorPosition(), 0);
        Check.fails("3: no loom yet", Check.STATE, x::harnessCount);
        Check.same("constants", CardLoom.NONE + "," + CardLoom.SYNTAX_ERROR + "," + CardLoom.RANGE_ERROR + ","
                + CardLoom.CONFLICT_ERROR + "," + CardLoom.LIMIT_ERROR, "-1,1,2,3,4");
    }
}
