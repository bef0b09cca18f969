/** All that can be asked of a loom without changing anything, as one text. */
final class Answers {
    private Answers() {
    }

    static String of(CardLoom x) {
        StringBuilder text = new StringBuilder();
        add(text, "buffer", x.bufferLength(), "error", x.parseErrorCode(), x.parseErrorPosition(), "undo",
                x.undoCount());
        text.append(outputOf(x));
        int harnesses;
        try {
            harnesses = x.harnessCount();
        } catch (IllegalStateException e) {
            return text.append("no setup").toString();
        }
        for (int i = 0; i < harnesses; i++) {
            add(text, "\nharness", i, x.isLifted(i), x.wear(i), x.isStuck(i), x.warpsOn(i));
        }
        for (int i = 0; i < x.warpCount(); i++) {
            add(text, "\nwarp", i, x.warpHarness(i), x.warpColour(i), x.isBroken(i), x.longestWarpFloat(i));
        }
        addCards(text, x, harnesses);
        addDeck(text, x);
        addCloth(text, x);
        for (int i = 0; i < 6; i++) {
            add(text, "\ncolour", i, x.cellsOfColour(i), x.yarn(i), x.yarnNeeded(i));
        }
        add(text, "\npredicted", x.nextCard(), x.weaveObstacle(), x.picksPossible(), x.picksUntilStuck(),
                x.imbalance());
        return text.toString();
    }

    /** The same, but without the input buffer, the latest parse error and the number of changes to undo. */
    static String ofTheLoom(CardLoom x) {
        return of(x).replaceFirst("buffer.*undo -?\\d+ ", "");
    }

    /** The output byte by byte, until there is none. */
    static String outputOf(CardLoom x) {
        StringBuilder text = new StringBuilder("output ");
        for (int i = 0; i < 1000; i++) {
            try {
                text.append((char) x.outputByte(i));
            } catch (IndexOutOfBoundsException e) {
                return text.append('.').toString();
            }
        }
        return text.append(" without an end").toString();
    }

    private static void add(StringBuilder text, Object... answers) {
        for (Object answer : answers) {
            text.append(answer).append(' ');
        }
    }

    private static void addCards(StringBuilder text, CardLoom x, int harnesses) {
        add(text, "\ncards", x.cardCount(), x.averageLifts());
        for (int i = 0; i < x.cardCount(); i++) {
            add(text, "\ncard", i, x.cardColour(i), x.liftedWarps(i), x.oppositeCard(i), x.cardUses(i),
                    x.liftDistance(i, 0));
            for (int k = 0; k < harnesses; k++) {
                add(text, x.lifts(i, k));
            }
        }
    }

    private static void addDeck(StringBuilder text, CardLoom x) {
        add(text, "\ndeck", x.deckLength(), x.deckDepth(), x.deckPeriod(), x.isPalindrome(), Given.picks(x));
    }

    private static void addCloth(StringBuilder text, CardLoom x) {
        add(text, "\ncloth", x.rowCount(), x.brokenCount(), x.rowPeriod(), x.warpShare(), x.wrongCount(),
                x.firstWrongRow(),
                x.swapFirst(), x.swapSecond());
        for (int row = 0; row < x.rowCount(); row++) {
            add(text, "\nrow", row, x.isWrong(row), x.longestWeftFloat(row));
            for (int warp = 0; warp < x.warpCount(); warp++) {
                text.append((char) ((x.showsWarp(row, warp) ? 'A' : 'a') + x.cellColour(row, warp)));
            }
        }
    }
}
