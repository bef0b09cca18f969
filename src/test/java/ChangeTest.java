/** Promises 54 to 65: changes, undoing, saving and restoring. */
final class ChangeTest {
    public static void main(String[] args) {
        withoutSetup();
        weaveAndUnweave();
        cardChanges();
        yarnOilMend();
        undoing();
        undoingEachChange();
        failedCallsAreNoChanges();
        slots();
        Check.end("ChangeTest");
    }

    private static void withoutSetup() {
        CardLoom x = new CardLoom();
        Check.fails("54", Check.STATE, () -> x.weave(0));
        Check.fails("55", Check.STATE, () -> x.unweave(0));
        Check.fails("56", Check.STATE, () -> x.swapCards(-1, -1));
        Check.fails("57", Check.STATE, () -> x.punch(-1, -1));
        Check.fails("58", Check.STATE, () -> x.setCardColour(-1, -1));
        Check.fails("59", Check.STATE, () -> x.bringYarn(-1, -1));
        Check.fails("60", Check.STATE, () -> x.oil(-1));
        Check.fails("61", Check.STATE, () -> x.mend(-1));
        Check.fails("62", Check.STATE, x::undo);
        Check.same("63", x.undoCount(), 0);
        Check.fails("64", Check.STATE, () -> x.saveState(2));
        Check.fails("65: the index first", Check.INDEX, () -> x.restoreState(2));
        Check.fails("65: the index first", Check.INDEX, () -> x.restoreState(-1));
        Check.fails("65", Check.STATE, () -> x.restoreState(0));
    }

    private static void weaveAndUnweave() {
        CardLoom x = Given.loom(Given.SAMPLE);
        Check.same("54", x.weave(3), 3);
        Check.same("54: until an obstacle", x.weave(60), 26);
        Check.same("54: at an obstacle", x.weave(1), 0);
        for (int bad : new int[] {0, -1, 61, Integer.MAX_VALUE, Integer.MIN_VALUE}) {
            Check.fails("54: " + bad, Check.ARGUMENT, () -> x.weave(bad));
        }
        Check.same("55", x.unweave(4), 25);
        for (int bad : new int[] {0, -1, 26, Integer.MAX_VALUE, Integer.MIN_VALUE}) {
            Check.fails("55: " + bad, Check.ARGUMENT, () -> x.unweave(bad));
        }
        Check.same("55: all", x.unweave(25), 0);
        Check.fails("55: without rows", Check.ARGUMENT, () -> x.unweave(1));
        Check.same("55: yarn is back", x.yarn(2) + "," + x.yarn(3), "200,60");
        x.bringYarn(2, 999);
        x.bringYarn(3, 999);
        Check.same("54: at most sixty rows", x.weave(60), 60);
        Check.same("54: no more", x.weave(60), 0);
    }

    private static void cardChanges() {
        CardLoom x = Given.loom(Given.SAMPLE);
        Check.same("56: picks of both", x.swapCards(0, 1), 8);
        Check.same("56: exchanged", Given.card(x, 0) + "|" + Given.card(x, 1), "..oo d|oo.. c");
        Check.same("56: the same card", x.swapCards(0, 0), 5);
        Check.same("56: nothing changed", Given.card(x, 0), "..oo d");
        Check.same("56: the deck stays", Given.picks(x), "0 1 0 2 0 2 0 1 2 1 0");
        Check.fails("56: the first", Check.INDEX, () -> x.swapCards(3, 0));
        Check.fails("56: the second", Check.INDEX, () -> x.swapCards(0, 3));
        Check.fails("56: negative", Check.INDEX, () -> x.swapCards(0, -1));

        Check.same("57: on", x.punch(2, 3), true);
        Check.same("57: lifts", Given.card(x, 2), ".ooo c");
        Check.same("57: off", x.punch(2, 3), false);
        Check.same("57: lifts no more", Given.card(x, 2), ".oo. c");
        Check.fails("57: card", Check.INDEX, () -> x.punch(3, 0));
        Check.fails("57: harness", Check.INDEX, () -> x.punch(0, 4));
        Check.fails("57: negative", Check.INDEX, () -> x.punch(0, -1));

        Check.same("58", x.setCardColour(2, 5), 2);
        Check.same("58: again", x.setCardColour(2, 0), 5);
        Check.same("58: set", x.cardColour(2), 0);
        Check.fails("58: the card first", Check.INDEX, () -> x.setCardColour(3, 6));
        Check.fails("58: the colour above", Check.ARGUMENT, () -> x.setCardColour(2, 6));
        Check.fails("58: the colour below", Check.ARGUMENT, () -> x.setCardColour(2, -1));
        Check.fails("58: no such card", Check.INDEX, () -> x.setCardColour(-1, 0));
    }

    private static void yarnOilMend() {
        CardLoom x = Given.loom("loom 2 2;warp a 0 1 0;card b 0;card b;deck 0 0 1;yarn b 99;strain 2;weave 3");
        Check.same("59", x.bringYarn(5, 999), 999);
        Check.same("59: more", x.bringYarn(5, 1), 1000);
        Check.same("59: other colours stay", x.yarn(4), 0);
        int[][] bad = {{6, 1}, {-1, 1}, {0, 0}, {0, -1}, {0, 1000}, {6, 0}};
        for (int[] pair : bad) {
            Check.fails("59: " + pair[0] + " " + pair[1], Check.ARGUMENT, () -> x.bringYarn(pair[0], pair[1]));
        }
        Check.same("60: before", x.isStuck(0) + "," + x.wear(0), "true,2");
        Check.same("60", x.oil(0), 2);
        Check.same("60: after", x.isStuck(0) + "," + x.wear(0), "false,0");
        Check.same("60: nothing to oil", x.oil(1), 0);
        Check.fails("60: above", Check.INDEX, () -> x.oil(2));
        Check.fails("60: below", Check.INDEX, () -> x.oil(-1));

        Check.same("61: before", x.brokenCount(), 2);
        Check.fails("61: not broken", Check.ARGUMENT, () -> x.mend(1));
        Check.fails("61: above", Check.INDEX, () -> x.mend(3));
        Check.fails("61: below", Check.INDEX, () -> x.mend(-1));
        Check.same("61", x.mend(2), 1);
        Check.same("61: that one", x.isBroken(0) + "," + x.isBroken(2), "true,false");
        Check.same("61: the other", x.mend(0), 0);
        Check.fails("61: again", Check.ARGUMENT, () -> x.mend(0));
        CardLoom both = Given.loom("loom 3 1;warp a 0;card b 0 1;deck 0;yarn b 9;weave 1");
        both.oil(1);
        Check.same("60: that one alone", both.isStuck(0) + "," + both.isStuck(1) + "," + both.isStuck(2), "true,false,false");
        CardLoom up = Given.loom("loom 2 1;warp a 0;card b 0;deck 0;yarn b 9;weave 1");
        up.oil(0);
        Check.same("60: it stays lifted", up.isLifted(0), true);
    }

    private static void undoing() {
        CardLoom x = Given.loom("loom 2 9;warp a 0;card a");
        Check.fails("62: nothing", Check.STATE, x::undo);
        for (int n = 1; n <= 10; n++) {
            x.bringYarn(0, 1);
            Check.same("63: after " + n, x.undoCount(), Math.min(n, 8));
        }
        for (int left = 7; left >= 0; left--) {
            Check.same("62: left", x.undo(), left);
            Check.same("62: yarn", x.yarn(0), 2 + left);
            Check.same("63: left", x.undoCount(), left);
        }
        Check.fails("62: the ninth", Check.STATE, x::undo);
        Check.same("62: unchanged", x.yarn(0), 2);

        for (int n = 0; n < 8; n++) {
            x.bringYarn(1, 1);
        }
        x.undo();
        x.undo();
        x.bringYarn(2, 1);
        Check.same("63: undone, then changed", x.undoCount(), 7);
        x.undo();
        Check.same("62: the latest", x.yarn(1) + "," + x.yarn(2), "6,0");
        x.undo();
        Check.same("62: the one before", x.yarn(1), 5);
        x.weave(1);
        Check.same("63: a change that changed nothing", x.undoCount(), 6);
        Check.same("62: undoes it", x.undo(), 5);
    }

    private static String all(CardLoom x) {
        StringBuilder text = new StringBuilder();
        for (int i = 0; i < x.harnessCount(); i++) {
            text.append(x.isLifted(i)).append(x.wear(i)).append(x.isStuck(i)).append(' ');
        }
        for (int i = 0; i < x.warpCount(); i++) {
            text.append(x.isBroken(i)).append(' ');
        }
        for (int i = 0; i < x.cardCount(); i++) {
            text.append(Given.card(x, i)).append(' ');
        }
        for (int i = 0; i < 6; i++) {
            text.append(x.yarn(i)).append(' ');
        }
        for (int i = 0; i < x.rowCount(); i++) {
            text.append(Given.row(x, i)).append(' ');
        }
        return text.append(x.nextCard()).append(' ').append(x.imbalance()).toString();
    }

    private static final String BUSY =
            "loom 2 4;warp a 0 1;card b 0;card c 0 1;deck 0 1;yarn b 99;yarn c 99;strain 2;weave 2";

    private static void undone(String what, CardLoom x, Runnable change) {
        String before = all(x);
        int count = x.undoCount();
        change.run();
        Check.same("62: changed by " + what, all(x).equals(before), false);
        Check.same("63: one more by " + what, x.undoCount(), count + 1);
        Check.same("62: undo of " + what, x.undo(), count);
        Check.same("62: all is as before " + what, all(x), before);
    }

    private static void undoingEachChange() {
        CardLoom x = Given.loom(BUSY);
        undone("weave", x, () -> x.weave(5));
        undone("unweave", x, () -> x.unweave(2));
        undone("unweave, then weave", x, () -> {
            x.unweave(1);
            x.undo();
            x.weave(4);
        });
        undone("swapCards", x, () -> x.swapCards(0, 1));
        undone("punch", x, () -> x.punch(1, 0));
        undone("setCardColour", x, () -> x.setCardColour(1, 5));
        undone("bringYarn", x, () -> x.bringYarn(3, 7));
        undone("oil", x, () -> x.oil(0));
        undone("mend", x, () -> x.mend(0));
        x.unweave(2);
        x.swapCards(0, 1);
        x.weave(2);
        String rows = Given.row(x, 0) + Given.row(x, 1);
        x.undo();
        x.undo();
        x.undo();
        Check.same("62: rows come back", Given.row(x, 0) + "," + Given.row(x, 1) + "," + rows, "Ab,AA,cAbb");
    }

    private static void failedCallsAreNoChanges() {
        CardLoom x = Given.loom(BUSY);
        String before = all(x);
        Check.fails("54", Check.ARGUMENT, () -> x.weave(61));
        Check.fails("55", Check.ARGUMENT, () -> x.unweave(3));
        Check.fails("56", Check.INDEX, () -> x.swapCards(0, 2));
        Check.fails("57", Check.INDEX, () -> x.punch(0, 2));
        Check.fails("58", Check.ARGUMENT, () -> x.setCardColour(0, 6));
        Check.fails("59", Check.ARGUMENT, () -> x.bringYarn(0, 0));
        Check.fails("60", Check.INDEX, () -> x.oil(2));
        Check.fails("61", Check.ARGUMENT, () -> x.mend(1));
        Check.fails("64", Check.INDEX, () -> x.saveState(2));
        Check.fails("65", Check.STATE, () -> x.restoreState(1));
        Check.same("7: a call that throws changes nothing", all(x), before);
        Check.same("63: and can not be undone", x.undoCount(), 0);
    }

    private static void slots() {
        CardLoom x = Given.loom(BUSY);
        Check.fails("65: nothing is saved", Check.STATE, () -> x.restoreState(0));
        String two = all(x);
        Check.same("64", x.saveState(0), 2);
        x.weave(3);
        x.bringYarn(5, 9);
        x.mend(0);
        String five = all(x);
        Check.same("64: another slot", x.saveState(1), 5);
        Check.same("63: saving is no change", x.undoCount(), 3);
        x.punch(0, 0);
        Check.same("65", x.restoreState(0), 2);
        Check.same("65: all", all(x), two);
        Check.same("63: the history is cleared", x.undoCount(), 0);
        Check.fails("62: nothing to undo", Check.STATE, x::undo);
        x.weave(1);
        Check.same("65: the other", x.restoreState(1), 5);
        Check.same("65: all of the other", all(x), five);
        x.weave(1);
        x.oil(0);
        Check.same("65: it stays saved", x.restoreState(1), 5);
        Check.same("65: unharmed", all(x), five);
        Check.same("64: what was saved there is lost", x.saveState(0), 5);
        x.unweave(5);
        Check.same("65: the later one", x.restoreState(0), 5);
        x.bringYarn(0, 1);
        x.undo();
        Check.same("65: undoing leaves the slots", x.restoreState(1), 5);
        for (int bad : new int[] {-1, 2, Integer.MAX_VALUE, Integer.MIN_VALUE}) {
            Check.fails("64: " + bad, Check.INDEX, () -> x.saveState(bad));
            Check.fails("65: " + bad, Check.INDEX, () -> x.restoreState(bad));
        }
    }
}
