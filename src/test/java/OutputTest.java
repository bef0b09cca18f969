/** Promises 50 to 53: the output (the deck's text has its cases in DeckTest). */
final class OutputTest {
    public static void main(String[] args) {
        CardLoom none = new CardLoom();
        Check.fails("50: no setup", Check.STATE, () -> none.writeRow(-1));
        Check.fails("51: no setup", Check.STATE, () -> none.writeCard(-1));
        Check.fails("53: no output", Check.INDEX, () -> none.outputByte(0));
        Check.fails("53: no output, below", Check.INDEX, () -> none.outputByte(-1));
        rows();
        cards();
        outputBytes();
        Check.end("OutputTest");
    }

    private static void rows() {
        CardLoom x = Given.loom("loom 2 9;warp a 0;warp f 1 0;card b 0;card e 1;deck 0 1;yarn b 9;yarn e 9;weave 2");
        Check.same("50", Given.row(x, 0) + " " + Given.row(x, 1), "AbF eFe");
        Check.same("50: the number of bytes", x.writeRow(1), 3);
        for (int bad : new int[] {-1, 2, Integer.MAX_VALUE, Integer.MIN_VALUE}) {
            Check.fails("50: " + bad, Check.INDEX, () -> x.writeRow(bad));
        }
        CardLoom wide = Given.loom("loom 2 9;warp a" + Given.repeated(" 0", 24) + ";card b;deck 0;yarn b 99;weave 1");
        Check.same("50: widest", Given.row(wide, 0), "b".repeat(24));
    }

    private static void cards() {
        CardLoom x = Given.loom("loom 8 9;warp a 0;card f 7 0;card a");
        Check.same("51", Given.card(x, 0) + "|" + Given.card(x, 1), "o......o f|........ a");
        Check.same("51: the number of bytes", x.writeCard(0), 10);
        x.swapCards(0, 1);
        Check.same("51: as it is now", Given.card(x, 1), "o......o f");
        for (int bad : new int[] {-1, 2, Integer.MAX_VALUE, Integer.MIN_VALUE}) {
            Check.fails("51: " + bad, Check.INDEX, () -> x.writeCard(bad));
        }
    }

    private static void outputBytes() {
        CardLoom x = Given.loom(Given.SAMPLE + ";weave 2");
        Check.fails("53: before the first output", Check.INDEX, () -> x.outputByte(0));
        x.writeRow(0);
        int length = x.writeDeck();
        Check.same("52: replaces the output", Given.output(x, length), "0 1 r2(0 2) m(0 1 2)");
        Check.same("53: last byte", x.outputByte(length - 1), (int) ')');
        Check.fails("53: behind", Check.INDEX, () -> x.outputByte(length));
        Check.fails("53: before", Check.INDEX, () -> x.outputByte(-1));
        Check.fails("53: far", Check.INDEX, () -> x.outputByte(Integer.MAX_VALUE));
        x.writeCard(1);
        Check.same("51: replaces the output", Given.output(x, 6), "..oo d");
        Check.fails("53: the earlier output is gone", Check.INDEX, () -> x.outputByte(6));
        Check.fails("50: a call that throws", Check.INDEX, () -> x.writeRow(2));
        Check.same("7: leaves the output", Given.output(x, 6), "..oo d");
        x.weave(1);
        x.undo();
        x.saveState(0);
        x.restoreState(0);
        Check.same("7: undoing and restoring leave it", Given.output(x, 6), "..oo d");
        Given.append(x, "loom 2 9;warp a 0");
        x.saveState(0);
        x.weave(1);
        x.undo();
        x.restoreState(0);
        Check.same("7: they leave the input buffer", x.bufferLength(), 20);
    }
}
