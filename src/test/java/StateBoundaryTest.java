import java.lang.reflect.InvocationTargetException;
import java.lang.reflect.Method;
import java.lang.reflect.Modifier;
import java.util.ArrayList;
import java.util.Arrays;
import java.util.List;
import java.util.Set;

/** The sentences of the terms' section 7: exceptions, undoing and the constants. */
final class StateBoundaryTest extends Boundary {
    private static final Set<String> WITHOUT_SETUP = Set.of("append", "parseSetup", "parseErrorCode",
            "parseErrorPosition",
            "bufferLength", "outputByte", "undoCount", "undo", "restoreState");

    /** Two rows; warp 0 is broken, harness 0 is stuck. */
    private static final String BUSY = "loom 2 1;warp a 0 1;card b 0;card c 0 1;deck 0 0;yarn b 99;yarn c 99;strain 2;weave 2";

    public static void main(String[] args) {
        Sentence.in("Section 7");
        Sentence.holds("All methods except append, parseSetup", StateBoundaryTest::withoutSetup);
        Sentence.holds("If several exceptions apply to a call", StateBoundaryTest::firstListedException);
        Sentence.holds("A call that throws an exception changes nothing", StateBoundaryTest::refusedCallsChangeNothing);
        Sentence.holds("Each successful call of a method in the section", StateBoundaryTest::everyChangeCounts);
        Sentence.holds("At most the latest 8 changes since", StateBoundaryTest::eightChanges);
        Sentence.holds("Undoing and restoring do not affect", StateBoundaryTest::bufferAndOutputStay);
        Sentence.holds("The constants: NONE = -1", () -> Check.same("NONE", CardLoom.NONE, -1));
        Sentence.holds("SYNTAX_ERROR = 1", () -> Check.same("SYNTAX_ERROR", CardLoom.SYNTAX_ERROR, 1));
        Sentence.holds("RANGE_ERROR = 2", () -> Check.same("RANGE_ERROR", CardLoom.RANGE_ERROR, 2));
        Sentence.holds("CONFLICT_ERROR = 3", () -> Check.same("CONFLICT_ERROR", CardLoom.CONFLICT_ERROR, 3));
        Sentence.holds("LIMIT_ERROR = 4", () -> Check.same("LIMIT_ERROR", CardLoom.LIMIT_ERROR, 4));
        for (String first : new String[] {"append", "harnessCount", "cardCount", "deckLength", "rowCount", "isWrong",
                "yarn",
            "writeRow", "weave"}) {
            Sentence.namesNoBoundary("Ahead of the calls " + first + ",");
        }
        Sentence.end("StateBoundaryTest");
    }

    // ---- calls without a setup

    private static void withoutSetup() {
        CardLoom refusedSetups = new CardLoom();
        Check.fails("an invalid setup", Check.ARGUMENT, () -> Given.parse(refusedSetups, "loom 2 9"));
        Check.fails("a bad length", Check.INDEX, () -> refusedSetups.parseSetup(21));
        int methods = 0;
        for (Method method : CardLoom.class.getDeclaredMethods()) {
            if (Modifier.isPublic(method.getModifiers()) && !WITHOUT_SETUP.contains(method.getName())) {
                methods++;
                for (int argument : new int[] {0, 1, -1, 99, Integer.MIN_VALUE, Integer.MAX_VALUE}) {
                    Object[] arguments = new Object[method.getParameterCount()];
                    Arrays.fill(arguments, argument);
                    refused(method.getName() + " " + argument, new CardLoom(), Check.STATE,
                            x -> call(method, x, arguments));
                    refused(method.getName() + " " + argument, refusedSetups, Check.STATE,
                            x -> call(method, x, arguments));
                }
            }
        }
        Check.same("the methods that need a setup", methods, 55);
        CardLoom x = new CardLoom();
        Check.same("append", x.append(0, 0, 0, 0, 0), 20);
        Check.same("bufferLength", x.bufferLength(), 20);
        Check.fails("parseSetup", Check.ARGUMENT, () -> x.parseSetup(0));
        Check.same("parseErrorCode and parseErrorPosition", x.parseErrorCode() + " " + x.parseErrorPosition(), "1 0");
        Check.fails("outputByte", Check.INDEX, () -> x.outputByte(0));
        Check.same("undoCount", x.undoCount(), 0);
        Check.fails("undo, for there is nothing to undo", Check.STATE, x::undo);
        Check.fails("restoreState of no slot", Check.INDEX, () -> x.restoreState(2));
        Check.fails("restoreState, for nothing is saved", Check.STATE, () -> x.restoreState(1));
    }

    private static Object call(Method method, CardLoom x, Object[] arguments) {
        try {
            return method.invoke(x, arguments);
        } catch (InvocationTargetException e) {
            if (e.getCause() instanceof RuntimeException) {
                throw (RuntimeException) e.getCause();
            }
            return e;
        } catch (IllegalAccessException e) {
            return e;
        }
    }

    private static void firstListedException() {
        CardLoom none = new CardLoom();
        refused("parseSetup: a bad length, of no valid setup", none, Check.INDEX, x -> x.parseSetup(1));
        refused("restoreState: no slot, and nothing saved", none, Check.INDEX, x -> x.restoreState(-1));
        refused("restoreState: no slot, and nothing saved", none, Check.INDEX, x -> x.restoreState(2));
        refused("saveState: no setup, no slot", none, Check.STATE, x -> x.saveState(2));
        refused("setCardColour: no setup, card and colour", none, Check.STATE, x -> x.setCardColour(0, 6));
        refused("mend: no setup and no warp", none, Check.STATE, x -> x.mend(0));
        refused("weave: no setup, out of range", none, Check.STATE, x -> x.weave(0));
        refused("bringYarn: no setup, out of range", none, Check.STATE, x -> x.bringYarn(6, 0));
        CardLoom busy = loom(BUSY);
        refused("setCardColour: no card, no colour", busy, Check.INDEX, x -> x.setCardColour(2, 6));
        refused("setCardColour: no card, no colour", busy, Check.INDEX, x -> x.setCardColour(-1, -1));
        refused("setCardColour: no colour", busy, Check.ARGUMENT, x -> x.setCardColour(1, 6));
        refused("mend: no warp, so none is broken", busy, Check.INDEX, x -> x.mend(2));
        refused("mend: not broken", busy, Check.ARGUMENT, x -> x.mend(1));
        refused("bringYarn: neither", busy, Check.ARGUMENT, x -> x.bringYarn(6, 1000));
        refused("punch: neither", busy, Check.INDEX, x -> x.punch(2, 2));
        refused("cellColour: neither", busy, Check.INDEX, x -> x.cellColour(2, 2));
    }

    // ---- calls that throw

    private static List<Call> callsToRefuse() {
        List<Call> calls = new ArrayList<>();
        for (int bad : new int[] {-1, 99, Integer.MIN_VALUE, Integer.MAX_VALUE}) {
            calls.addAll(List.of(x -> x.warpHarness(bad), x -> x.warpColour(bad), x -> x.warpsOn(bad),
                    x -> x.isBroken(bad),
                    x -> x.isLifted(bad), x -> x.wear(bad), x -> x.isStuck(bad), x -> x.lifts(bad, 0),
                            x -> x.lifts(0, bad),
                    x -> x.cardColour(bad), x -> x.liftedWarps(bad), x -> x.liftDistance(bad, 0),
                            x -> x.liftDistance(0, bad),
                    x -> x.oppositeCard(bad), x -> x.deckCard(bad), x -> x.cardUses(bad)));
            calls.addAll(List.of(x -> x.cellColour(bad, 0), x -> x.cellColour(0, bad), x -> x.showsWarp(bad, 0),
                    x -> x.showsWarp(0, bad), x -> x.longestWarpFloat(bad), x -> x.longestWeftFloat(bad),
                    x -> x.cellsOfColour(bad), x -> x.isWrong(bad), x -> x.yarn(bad), x -> x.yarnNeeded(bad),
                    x -> x.writeRow(bad), x -> x.writeCard(bad), x -> x.outputByte(bad)));
            calls.addAll(List.of(x -> x.weave(bad), x -> x.unweave(bad), x -> x.swapCards(bad, 0),
                    x -> x.swapCards(0, bad),
                    x -> x.punch(bad, 0), x -> x.punch(0, bad), x -> x.setCardColour(bad, 0),
                            x -> x.setCardColour(0, bad),
                    x -> x.bringYarn(bad, 1), x -> x.oil(bad), x -> x.mend(bad), x -> x.saveState(bad),
                            x -> x.restoreState(bad)));
        }
        calls.addAll(List.of(x -> x.weave(0), x -> x.weave(61), x -> x.unweave(0), x -> x.unweave(x.rowCount() + 1),
                x -> x.bringYarn(0, 0), x -> x.bringYarn(0, 1000), x -> x.bringYarn(0, -1), x -> x.mend(1),
                        x -> x.saveState(2)));
        calls.addAll(List.of(x -> x.parseSetup(-1), x -> x.parseSetup(x.bufferLength() + 1),
                x -> x.parseSetup(Integer.MAX_VALUE),
                x -> x.parseSetup(Integer.MIN_VALUE)));
        return calls;
    }

    /** With an output, an input buffer, a parse error, three changes to undo, and a state in slot 1. */
    private static CardLoom busyLoom() {
        CardLoom x = loom(BUSY);
        x.saveState(1);
        x.bringYarn(5, 5);
        x.swapCards(0, 1);
        x.weave(1);
        x.writeDeck();
        Check.fails("a setup", Check.ARGUMENT, () -> Given.parse(x, "loom 9 9"));
        Given.append(x, BUSY);
        return x;
    }

    private static void refusedCallsChangeNothing() {
        CardLoom refusing = busyLoom();
        String before = Answers.of(refusing);
        int number = 0;
        for (Call call : callsToRefuse()) {
            Object got = "no exception";
            try {
                call.on(refusing);
            } catch (IllegalArgumentException | IndexOutOfBoundsException e) {
                got = "refused";
            }
            Check.same("call " + number + " is refused", got, "refused");
            Check.same("call " + number + " changes nothing", Answers.of(refusing), before);
            number++;
        }
        Check.fails("nothing is saved", Check.STATE, () -> refusing.restoreState(0));
        Check.same("restoring nothing changes nothing", Answers.of(refusing), before);
        CardLoom other = busyLoom();
        for (int left = 2; left >= 0; left--) {
            Check.same("undo afterwards", refusing.undo() + " " + other.undo(), left + " " + left);
            Check.same("what it brings back", Answers.of(refusing), Answers.of(other));
        }
        String undone = Answers.of(refusing);
        Check.fails("no more to undo", Check.STATE, refusing::undo);
        Check.same("undoing nothing changes nothing", Answers.of(refusing), undone);
        Check.same("the saved state", refusing.restoreState(1) + " " + other.restoreState(1), "2 2");
        Check.same("what it restores", Answers.of(refusing), Answers.of(other));
        Check.same("the input buffer", refusing.parseSetup(BUSY.length()), 2);

        CardLoom parsing = busyLoom();
        String loom = Answers.ofTheLoom(parsing);
        Check.fails("as stated for parseSetup", Check.ARGUMENT, () -> parsing.parseSetup(8));
        Check.same("the buffer is empty", parsing.bufferLength(), 0);
        Check.same("the error is new", parsing.parseErrorCode() + " " + parsing.parseErrorPosition(), "4 8");
        Check.same("the loom stays", Answers.ofTheLoom(parsing), loom);
        Check.same("the changes can be undone", parsing.undoCount() + " " + parsing.undo(), "3 2");
        Check.same("the saved state stays", parsing.restoreState(1), 2);
    }

    // ---- changes

    private static void everyChangeCounts() {
        Call[] changes = {x -> x.weave(1), x -> x.weave(60), x -> x.unweave(1), x -> x.unweave(2),
                x -> x.swapCards(0, 1),
            x -> x.punch(0, 0), x -> x.setCardColour(0, 5), x -> x.bringYarn(0, 1), x -> x.bringYarn(5, 999),
                    x -> x.oil(0),
            x -> x.mend(0)};
        for (int i = 0; i < changes.length; i++) {
            undone("change " + i, loom(BUSY), changes[i], true);
        }
        undone("weave at an obstacle", loom(BUSY.replace("yarn b 99", "yarn b 4")), x -> x.weave(1), false);
        undone("weave without picks", loom(LEAST), x -> x.weave(60), false);
        undone("weave with sixty rows", loom(MOST), x -> x.weave(1), false);
        undone("swapCards of a card with itself", loom(BUSY), x -> x.swapCards(1, 1), false);
        undone("swapCards of equal cards", loom(LEAST + ";card a;card a"), x -> x.swapCards(0, 1), false);
        undone("setCardColour with the colour it has", loom(BUSY), x -> x.setCardColour(0, 1), false);
        undone("oil without wear", loom(BUSY), x -> x.oil(1), false);
        undone("unweave of all of sixty rows", loom(MOST), x -> x.unweave(60), true);
        CardLoom saved = loom(BUSY);
        saved.saveState(0);
        Check.same("saving is none of them", saved.undoCount(), 0);
        saved.weave(1);
        saved.saveState(1);
        Check.same("saving ends none of them", saved.undoCount(), 1);
        saved.undo();
        Check.same("undoing is none of them", saved.undoCount(), 0);
        saved.writeRow(0);
        saved.picksPossible();
        saved.picksUntilStuck();
        saved.imbalance();
        Check.same("asking and writing are none of them", saved.undoCount(), 0);
    }

    private static void undone(String what, CardLoom x, Call change, boolean changes) {
        String before = Answers.ofTheLoom(x);
        x.bringYarn(3, 3);
        String between = Answers.ofTheLoom(x);
        change.on(x);
        Check.same(what + " can be undone", x.undoCount(), 2);
        Check.same(what + " changes something", !Answers.ofTheLoom(x).equals(between), changes);
        Check.same("undoing " + what, x.undo(), 1);
        Check.same("all is as before " + what, Answers.ofTheLoom(x), between);
        Check.same("undoing the change before", x.undo(), 0);
        Check.same("all is as before it", Answers.ofTheLoom(x), before);
    }

    private static void eightChanges() {
        for (int changes = 0; changes <= 20; changes++) {
            CardLoom x = loom(LEAST);
            for (int n = 0; n < changes; n++) {
                x.bringYarn(0, 1);
            }
            int kept = Math.min(changes, 8);
            Check.same("after " + changes, x.undoCount(), kept);
            for (int left = kept - 1; left >= 0; left--) {
                Check.same("undo after " + changes, x.undo(), left);
                Check.same("the latest ones after " + changes, x.yarn(0), changes - kept + left);
            }
            refused("one more undo after " + changes, x, Check.STATE, CardLoom::undo);
            x.bringYarn(0, 1);
            Check.same("a change afterwards", x.undoCount(), 1);
        }
        CardLoom x = loom(LEAST);
        x.saveState(0);
        for (int n = 0; n < 9; n++) {
            x.bringYarn(0, 1);
        }
        Check.fails("a refused restoreState", Check.STATE, () -> x.restoreState(1));
        Check.fails("a refused parseSetup", Check.ARGUMENT, () -> Given.parse(x, "loom 2 9"));
        Check.fails("another one", Check.INDEX, () -> x.parseSetup(1));
        Check.same("leave the changes", x.undoCount(), 8);
        x.undo();
        x.undo();
        x.undo();
        x.bringYarn(1, 1);
        Check.same("undone changes are gone", x.undoCount(), 6);
        x.restoreState(0);
        Check.same("since the latest restoreState", x.undoCount(), 0);
        refused("nothing before it", x, Check.STATE, CardLoom::undo);
        x.bringYarn(0, 1);
        x.bringYarn(0, 1);
        Check.same("two since then", x.undoCount() + " " + x.undo() + " " + x.undo() + " " + x.yarn(0), "2 1 0 0");
        x.bringYarn(0, 1);
        Given.parse(x, LEAST);
        Check.same("since the latest parseSetup", x.undoCount(), 0);
        refused("nothing before that", x, Check.STATE, CardLoom::undo);
    }

    private static void bufferAndOutputStay() {
        CardLoom x = loom(BUSY);
        x.saveState(0);
        x.writeCard(0);
        x.weave(1);
        Given.append(x, LEAST);
        x.writeDeck();
        int length = x.bufferLength();
        x.undo();
        Check.same("undo: the output", Answers.outputOf(x), "output 0 0.");
        Check.same("undo: the buffer", x.bufferLength(), length);
        x.restoreState(0);
        Check.same("restoreState: the output", Answers.outputOf(x), "output 0 0.");
        Check.same("restoreState: the buffer", x.bufferLength(), length);
        Check.same("the bytes in it", x.parseSetup(LEAST.length()) + " " + x.warpCount(), "0 1");
        CardLoom none = loom(BUSY);
        none.saveState(1);
        none.weave(1);
        none.undo();
        none.restoreState(1);
        Check.same("no output", Answers.outputOf(none), "output .");
        Check.same("no buffer", none.bufferLength(), 0);
    }
}
