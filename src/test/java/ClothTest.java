/** Promises 29 to 42: the cloth and its checks. */
final class ClothTest {
    public static void main(String[] args) {
        withoutSetup();
        cells();
        floats();
        colours();
        rowPeriod();
        shares();
        wrongRows();
        suspectedSwap();
        Check.end("ClothTest");
    }

    private static void withoutSetup() {
        CardLoom x = new CardLoom();
        Check.fails("29", Check.STATE, x::rowCount);
        Check.fails("30", Check.STATE, () -> x.cellColour(-1, -1));
        Check.fails("31", Check.STATE, () -> x.showsWarp(-1, -1));
        Check.fails("32", Check.STATE, () -> x.longestWarpFloat(-1));
        Check.fails("33", Check.STATE, () -> x.longestWeftFloat(-1));
        Check.fails("34", Check.STATE, () -> x.cellsOfColour(-1));
        Check.fails("35", Check.STATE, x::rowPeriod);
        Check.fails("36", Check.STATE, x::warpShare);
        Check.fails("37", Check.STATE, x::averageLifts);
        Check.fails("38", Check.STATE, () -> x.isWrong(-1));
        Check.fails("39", Check.STATE, x::wrongCount);
        Check.fails("40", Check.STATE, x::firstWrongRow);
        Check.fails("41", Check.STATE, x::swapFirst);
        Check.fails("42", Check.STATE, x::swapSecond);
    }

    private static void cells() {
        CardLoom x = Given.loom(Given.SAMPLE + ";weave 3");
        Check.same("29", x.rowCount(), 3);
        Check.same("29: none", Given.loom(Given.SAMPLE).rowCount(), 0);
        String[] rows = {"AAccAAcc", "ddAAddBB", "AAccAAcc"};
        for (int row = 0; row < 3; row++) {
            for (int warp = 0; warp < 8; warp++) {
                char cell = rows[row].charAt(warp);
                Check.same("30: " + row + " " + warp, x.cellColour(row, warp), Character.toLowerCase(cell) - 'a');
                Check.same("31: " + row + " " + warp, x.showsWarp(row, warp), Character.isUpperCase(cell));
            }
        }
        for (int bad : new int[] {-1, 3, 60, Integer.MAX_VALUE, Integer.MIN_VALUE}) {
            Check.fails("30: row " + bad, Check.INDEX, () -> x.cellColour(bad, 0));
            Check.fails("31: row " + bad, Check.INDEX, () -> x.showsWarp(bad, 0));
            Check.fails("33: row " + bad, Check.INDEX, () -> x.longestWeftFloat(bad));
            Check.fails("38: row " + bad, Check.INDEX, () -> x.isWrong(bad));
        }
        for (int bad : new int[] {-1, 8, 24, Integer.MAX_VALUE, Integer.MIN_VALUE}) {
            Check.fails("30: warp " + bad, Check.INDEX, () -> x.cellColour(0, bad));
            Check.fails("31: warp " + bad, Check.INDEX, () -> x.showsWarp(0, bad));
            Check.fails("32: warp " + bad, Check.INDEX, () -> x.longestWarpFloat(bad));
        }
        x.setCardColour(0, 5);
        x.punch(0, 3);
        Check.same("4: later changes do not change rows", Given.row(x, 0), rows[0]);
        x.unweave(2);
        Check.fails("30: a removed row", Check.INDEX, () -> x.cellColour(1, 0));
    }

    private static void floats() {
        CardLoom x = Given.loom("loom 3 99;warp a 0 1 2 2;card b 0;card b 1;card b 0 1;deck 2 0 1 2 2 2 0;yarn b 99;weave 7");
        Check.same("32: of the end", x.longestWarpFloat(0), 4);
        Check.same("32: of the middle", x.longestWarpFloat(1), 4);
        Check.same("32: of the start", Given.loom(
                "loom 2 99;warp a 0;card b 0;card b;deck 0 0 1 0;yarn b 9;weave 4").longestWarpFloat(0), 2);
        CardLoom shorter = Given.loom("loom 2 99;warp a 0;card b 0;deck 0;yarn b 9;weave 3;unweave 1");
        Check.same("32: without removed rows", shorter.longestWarpFloat(0), 2);
        Check.same("36: without removed rows", shorter.warpShare(), 1.0f);
        Check.same("32: none", x.longestWarpFloat(2), 0);
        Check.same("32: without rows", Given.loom(Given.SAMPLE).longestWarpFloat(0), 0);
        Check.same("33: behind", x.longestWeftFloat(0), 2);
        Check.same("33: longer", x.longestWeftFloat(1), 3);
        Check.same("33: the greatest of two", x.longestWeftFloat(2), 2);
        CardLoom full = Given.loom("loom 2 9;warp a 0 1 0;card b 0 1;card b;card b 0;deck 0 1 2;yarn b 99;weave 3");
        Check.same("33: no weft", full.longestWeftFloat(0), 0);
        Check.same("33: all weft", full.longestWeftFloat(1), 3);
        Check.same("33: one", full.longestWeftFloat(2), 1);
    }

    private static void colours() {
        CardLoom x = Given.loom(Given.SAMPLE + ";weave 3");
        int[] due = {10, 2, 8, 4, 0, 0};
        for (int colour = 0; colour < 6; colour++) {
            Check.same("34: " + colour, x.cellsOfColour(colour), due[colour]);
        }
        Check.same("34: warp and weft", Given.loom("loom 2 9;warp a 0 1;card a 0;deck 0;yarn a 9;weave 2").cellsOfColour(0), 4);
        Check.same("34: without rows", Given.loom(Given.SAMPLE).cellsOfColour(0), 0);
        Check.fails("34: below", Check.ARGUMENT, () -> x.cellsOfColour(-1));
        Check.fails("34: above", Check.ARGUMENT, () -> x.cellsOfColour(6));
    }

    private static int periodOf(String deck, int rows) {
        CardLoom x = Given.loom("loom 2 200;warp a 0 1;card a 0;card b 0;card a 0 1;card c 0;deck " + deck
                + ";yarn a 200;yarn b 200;yarn c 200");
        if (rows > 0) {
            x.weave(rows);
        }
        return x.rowPeriod();
    }

    private static void rowPeriod() {
        Check.same("35: none", periodOf("0", 0), 0);
        Check.same("35: one row", periodOf("0", 1), 1);
        Check.same("35: equal rows", periodOf("0", 5), 1);
        Check.same("35: other cells, equal colours", periodOf("0 2", 5), 1);
        Check.same("35: two", periodOf("0 1", 5), 2);
        Check.same("35: need not divide", periodOf("0 1 1", 7), 3);
        Check.same("35: no smaller", periodOf("0 0 0 1", 4), 4);
        Check.same("35: all but the first", periodOf("1 0 0 1", 4), 3);
        Check.same("35: the first warp", Given.loom("loom 2 99;warp a 0 1;card b 0;card b;deck 0 1;yarn b 9;weave 3")
                .rowPeriod(), 2);
        Check.same("35: the most rows", periodOf("0 1 3", 60), 3);
    }

    private static void shares() {
        CardLoom x = Given.loom("loom 3 9;warp a 0 1 2;card b 0;card b;card b 0 1 2;deck 0 1;yarn b 99");
        Check.same("36: without rows", x.warpShare(), 0.0f);
        x.weave(3);
        Check.same("36", x.warpShare(), 2.0f / 9.0f);
        Check.same("36: all", Given.loom("loom 2 9;warp a 0;card b 0;deck 0;yarn b 9;weave 3").warpShare(), 1.0f);
        CardLoom one = Given.loom("loom 2 9;warp a 0;card b 0 1;deck 0;yarn b 9;weave 1");
        Check.same("36: one cell", one.warpShare(), 1.0f);
        Check.same("37: one card", one.averageLifts(), 2.0);
        Check.same("37", x.averageLifts(), 4.0 / 3.0);
        x.punch(1, 1);
        Check.same("37: after a change", x.averageLifts(), 5.0 / 3.0);
        Check.same("37: without cards", Given.loom("loom 2 9;warp a 0").averageLifts(), 0.0);
    }

    private static String wrong(CardLoom x) {
        StringBuilder text = new StringBuilder();
        for (int row = 0; row < x.rowCount(); row++) {
            text.append(x.isWrong(row) ? 'x' : '.');
        }
        return text + " " + x.wrongCount() + " " + x.firstWrongRow();
    }

    private static void wrongRows() {
        CardLoom x = Given.loom(Given.SAMPLE + ";weave 2");
        Check.same("38, 39, 40: none", wrong(x), ".. 0 -1");
        x.punch(0, 3);
        x.weave(3);
        Check.same("38, 39, 40: lifts", wrong(x), "..x.x 2 2");
        x.punch(0, 3);
        Check.same("38: rows stay wrong", wrong(x), "..x.x 2 2");
        CardLoom dyed = Given.loom("loom 2 9;warp a 0 1;card b 0;card b 0 1;deck 0 1;yarn c 99;dye 0 c;dye 1 c;weave 2");
        Check.same("38: the weft's colour where it shows", wrong(dyed), "x. 1 0");
        CardLoom same = Given.loom("loom 2 9;warp a 0;card a 0;deck 0;yarn a 99;punch 0 0;weave 1");
        Check.same("38: equal colours, but warp and weft", wrong(same), "x 1 0");
        CardLoom stuck = Given.loom("loom 2 3;warp a 0 1;card b 0;card b 1;deck 0 1;yarn b 99;weave 4");
        Check.same("38: a stuck harness", wrong(stuck), "...x 1 3");
        CardLoom broken = Given.loom("loom 2 9;warp a 0 1;card b 0;deck 0;yarn b 99;strain 2;weave 3");
        Check.same("38: a broken warp", wrong(broken), "..x 1 2");
        CardLoom design = Given.loom("loom 2 9;warp a 0;card b 0;invert 0;deck 0;yarn b 9;weave 1;invert 0;weave 1");
        Check.same("5: the design is what a card was when it was added", wrong(design), "x. 1 0");
        Check.same("38, 39, 40: without rows", wrong(Given.loom(Given.SAMPLE)), " 0 -1");
        CardLoom around = Given.loom("loom 2 99;warp a 0;card b 0;card b;deck 0 1;yarn b 99;weave 5;punch 1 0;weave 1");
        Check.same("5: modulo the number of picks", wrong(around), ".....x 1 5");
    }

    private static String swap(CardLoom x) {
        return x.swapFirst() + " " + x.swapSecond();
    }

    private static void suspectedSwap() {
        CardLoom x = Given.loom(Given.SAMPLE);
        Check.same("41, 42: no rows", swap(x), "-1 -1");
        x.swapCards(2, 0);
        x.weave(4);
        Check.same("41, 42: the swap", swap(x), "0 2");
        x.unweave(4);
        x.swapCards(0, 2);
        x.weave(4);
        Check.same("41, 42: nothing wrong", swap(x), "-1 -1");
        x.punch(0, 3);
        x.weave(1);
        Check.same("41, 42: wrong, but no swap", swap(x), "-1 -1");

        String four = "loom 3 99;warp a 0 1 2;card b 0;card b 1;card b 1;card b 2;deck 0 3;yarn b 99;";
        Check.same("41, 42: the first pair", swap(Given.loom(four + "punch 0 0;punch 0 1;weave 1")), "0 1");
        Check.same("41, 42: two rows", swap(Given.loom(four + "swap 0 3;weave 2")), "0 3");
        Check.same("41, 42: one right row too many", swap(Given.loom(four + "swap 0 3;weave 2;swap 0 3;weave 1")), "-1 -1");
        Check.same("41, 42: unused cards", swap(Given.loom(four + "swap 2 3;weave 2")), "1 3");
        String late = four + "punch 0 0;punch 0 1;weave 1;card c 1;card b 0 1";
        Check.same("41, 42: the least first card", swap(Given.loom(late)), "0 1");
        String one = "loom 2 9;warp b 0;card b 0;deck 0;yarn a 9;punch 0 0;dye 0 a;weave 1";
        Check.same("41, 42: a card that does not exist", swap(Given.loom(one)), "-1 -1");
        CardLoom last = Given.loom("loom 2 99;warp a 0 1" + Given.repeated(";card b 0", 11)
                + ";card c 1;deck 10 11;yarn b 9;yarn c 9;swap 10 11;weave 2");
        Check.same("41, 42: the last pair", swap(last), "10 11");
    }
}
