/** The sentences of promises 29 to 42: the cloth and its checks. */
final class ClothBoundaryTest extends Boundary {
    /** Four warps; cards that lift none, all, the first, the last, and the two in the middle. */
    private static final String CARDS = "loom 4 200;warp a 0 1;warp f 2 3;card b;card c 0 1 2 3;card d 0;card e 3;card a 1 2;"
            + "yarn a 999;yarn b 999;yarn c 999;yarn d 999;yarn e 999;deck ";

    public static void main(String[] args) {
        rowsAndCells();
        floats();
        coloursAndPeriod();
        shares();
        wrongRows();
        suspectedSwap();
        Sentence.end("ClothBoundaryTest");
    }

    private static CardLoom cloth(String deck, int rows) {
        return loom(CARDS + deck + (rows > 0 ? ";weave " + rows : ""));
    }

    private static void noSuchRowOrWarp(CallWith ofRow, CallWith ofWarp) {
        Sentence.holds("Throws IndexOutOfBoundsException if there is no such row or warp", () -> {
            takesIndices(LEAST, 0, ofRow);
            takesIndices(LEAST, 0, (x, warp) -> ofWarp.on(x, -1));
            takesIndices(ONE, 1, ofRow);
            takesIndices(ONE, 1, ofWarp);
            takesIndices(ONE + ";unweave 1", 0, ofRow);
            takesIndices(CARDS + "0;weave 3", 3, ofRow);
            takesIndices(CARDS + "0;weave 3", 4, ofWarp);
            takesIndices(MOST + ";unweave 1", 59, ofRow);
            takesIndices(MOST, 60, ofRow);
            takesIndices(MOST, 24, ofWarp);
        });
    }

    private static void rowsAndCells() {
        promise(29);
        sentence("Returns the number of rows of the cloth.", () -> cloth("0", 7).rowCount(), 7);
        Sentence.holds("Returns the number, 0 to 60.", () -> {
            Check.same("none", loom(LEAST).rowCount(), 0);
            for (int n = 1; n <= 60; n++) {
                Check.same("of " + n, cloth("0", n).rowCount(), n);
            }
            CardLoom x = loom(MOST);
            x.weave(1);
            Check.same("no more", x.rowCount(), 60);
            x.unweave(60);
            Check.same("none again", x.rowCount(), 0);
        });
        needsSetupAnd(CardLoom::rowCount);

        promise(30);
        sentence("Returns the colour of a cell of the cloth.", () -> cells(cloth("4", 1)), "0 0 5 0 ");
        sentence("row: index of a row of the cloth",
                () -> loom(MOST).cellColour(0, 1) + " " + loom(MOST).cellColour(59, 1), "0 5");
        sentence("warp: index of a warp",
                () -> cloth("2", 1).cellColour(0, 0) + " " + cloth("3", 1).cellColour(0, 3) + " "
                + cloth("2", 1).cellColour(0, 3), "0 5 3");
        Sentence.holds("Returns number of the colour.", () -> {
            CardLoom x = loom("loom 2 9;warp a 0;warp f 0;warp f 1;card f 0;card a 0;deck 0 1;yarn a 9;yarn f 9;weave 2");
            Check.same("of the warps and the weft", cells(x), "0 5 5 0 5 0 ");
        });
        needsSetupAndTakes((x, i) -> x.cellColour(i, i));
        noSuchRowOrWarp((x, row) -> x.cellColour(row, 0), (x, warp) -> x.cellColour(0, warp));

        promise(31);
        Sentence.holds("Tells whether a cell of the cloth shows the warp.", () -> {
            CardLoom x = loom("loom 2 9;warp b 0 1;card b 0;deck 0;yarn b 99;strain 2;weave 3");
            Check.same("lifted or not", x.showsWarp(1, 0) + " " + x.showsWarp(1, 1), "true false");
            Check.same("lifted, but broken", x.showsWarp(2, 0), false);
        });
        sentence("row: index of a row of the cloth",
                () -> loom(MOST).showsWarp(0, 0) + " " + loom(MOST).showsWarp(1, 0) + " "
                + loom(MOST).showsWarp(59, 0), "false true true");
        sentence("warp: index of a warp",
                () -> cloth("2", 1).showsWarp(0, 0) + " " + cloth("2", 1).showsWarp(0, 3) + " "
                + cloth("3", 1).showsWarp(0, 3), "true false true");
        sentence("Returns true if it shows the warp, false if",
                () -> cloth("1", 1).showsWarp(0, 0) + " " + cloth("0", 1).showsWarp(0, 0),
                "true false");
        needsSetupAndTakes((x, i) -> x.showsWarp(i, i));
        noSuchRowOrWarp((x, row) -> x.showsWarp(row, 0), (x, warp) -> x.showsWarp(0, warp));
    }

    private static String cells(CardLoom x) {
        StringBuilder text = new StringBuilder();
        for (int row = 0; row < x.rowCount(); row++) {
            for (int warp = 0; warp < x.warpCount(); warp++) {
                text.append(x.cellColour(row, warp)).append(' ');
            }
        }
        return text.toString();
    }

    private static void floats() {
        promise(32);
        Sentence.holds("Returns the greatest number of neighboring rows", () -> {
            Check.same("at the start", cloth("2 2 2 0 2 2 0", 7).longestWarpFloat(0), 3);
            Check.same("in the middle", cloth("2 0 2 2 2 0 2", 7).longestWarpFloat(0), 3);
            Check.same("at the end", cloth("2 2 0 2 2 2", 6).longestWarpFloat(0), 3);
            Check.same("neighbours, not all", cloth("2 0 2 0 2", 5).longestWarpFloat(0), 1);
            Check.same("over the deck's end, but not around the cloth", cloth("2 0 2", 6).longestWarpFloat(0), 2);
            Check.same("two equal ones", cloth("2 2 0 2 2", 5).longestWarpFloat(0), 2);
        });
        sentence("warp: index of a warp",
                () -> cloth("2 3 3", 3).longestWarpFloat(0) + " " + cloth("2 3 3", 3).longestWarpFloat(3), "1 2");
        Sentence.holds("Returns the number of rows.", () -> {
            Check.same("without rows", loom(LEAST).longestWarpFloat(0), 0);
            Check.same("none", cloth("0", 5).longestWarpFloat(0), 0);
            Check.same("one row", cloth("1", 1).longestWarpFloat(0), 1);
            Check.same("all of sixty", cloth("1", 60).longestWarpFloat(3), 60);
            Check.same("removed rows do not count", loom(CARDS + "1;weave 60;unweave 1").longestWarpFloat(0), 59);
        });
        needsSetupAndTakes(CardLoom::longestWarpFloat);
        noSuchWarp(CardLoom::longestWarpFloat);

        promise(33);
        Sentence.holds("Returns the greatest number of neighboring cells", () -> {
            String wide = "loom 3 9;warp a 0 0 0 1 0 0 1 2;card b 1;card b 1 2;card b 2;card b 0;deck 0 1 2 3;yarn b 99;weave 4";
            Check.same("at the start", loom(wide).longestWeftFloat(0), 3);
            Check.same("at the start, before others", loom(wide).longestWeftFloat(1), 3);
            Check.same("but for the last", loom(wide).longestWeftFloat(2), 7);
            Check.same("at the end", loom(wide).longestWeftFloat(3), 2);
            Check.same("two in the middle", cloth("4", 1).longestWeftFloat(0), 1);
            Check.same("behind the first", cloth("2", 1).longestWeftFloat(0), 3);
            Check.same("before the last", cloth("3", 1).longestWeftFloat(0), 3);
        });
        sentence("row: index of a row of the cloth", () -> cloth("1 2 0", 60).longestWeftFloat(0) + " "
                + cloth("1 2 0", 60).longestWeftFloat(59), "0 4");
        Sentence.holds("Returns the number of cells.", () -> {
            Check.same("none", cloth("1", 1).longestWeftFloat(0), 0);
            Check.same("all", cloth("0", 1).longestWeftFloat(0), 4);
            Check.same("all of 24", loom(MOST).longestWeftFloat(0), 24);
            Check.same("the only one", loom(LEAST + ";card b;deck 0;yarn b 1;weave 1").longestWeftFloat(0), 1);
            Check.same("not the only one", loom(ONE).longestWeftFloat(0), 0);
        });
        needsSetupAndTakes(CardLoom::longestWeftFloat);
        noSuchRow(CardLoom::longestWeftFloat);
    }

    private static void coloursAndPeriod() {
        promise(34);
        sentence("Returns the number of cells of the cloth that have a colour.",
                () -> cloth("0 2 4", 3).cellsOfColour(0) + " "
                + cloth("0 2 4", 3).cellsOfColour(1) + " " + cloth("0 2 4", 3).cellsOfColour(3) + " "
                + cloth("0 2 4", 3).cellsOfColour(5), "4 4 3 1");
        sentence("colour: number of a colour, 0 to 5",
                () -> loom(MOST).cellsOfColour(0) + " " + loom(MOST).cellsOfColour(5),
                countColour(loom(MOST), 0) + " " + countColour(loom(MOST), 5));
        Sentence.holds("Returns the number of cells.", () -> {
            for (int colour = 0; colour < 6; colour++) {
                Check.same("without rows", loom(LEAST).cellsOfColour(colour), 0);
                Check.same("one cell", loom(ONE).cellsOfColour(colour), colour == 0 ? 1 : 0);
            }
            Check.same("all cells", loom("loom 2 9;warp e" + Given.repeated(" 0 1", 12)
                    + ";card e 0;deck 0;yarn e 999;yarn e 999;weave 60").cellsOfColour(4), 1440);
        });
        needsSetupAndTakes(CardLoom::cellsOfColour);
        noSuchColour(CardLoom::cellsOfColour);

        promise(35);
        Sentence.holds("Returns the least number, at least 1, such that", () -> {
            Check.same("equal rows", cloth("0", 9).rowPeriod(), 1);
            Check.same("two", cloth("0 1", 9).rowPeriod(), 2);
            Check.same("it need not divide", cloth("0 1 2", 4).rowPeriod(), 3);
            Check.same("all but the first row", cloth("1 0 0 0", 4).rowPeriod(), 4);
            Check.same("all but the last row", cloth("0 0 0 1", 4).rowPeriod(), 4);
            Check.same("the first and the last row alone", cloth("0 1 2 0", 4).rowPeriod(), 3);
            Check.same("equal colours of warp and weft",
                    loom("loom 2 9;warp b 0;card b;card b 0;deck 0 1;yarn b 9;weave 9").rowPeriod(), 1);
            String first = "loom 2 9;warp a 0;warp b 1;card b;card b 0;deck 0 1 0;yarn b 99;weave 3";
            Check.same("the first cell differs", loom(first).rowPeriod(), 2);
            String hidden = "loom 2 9;warp a 0;warp b 1;card b 0 1;card c 0 1;deck 0 1;yarn b 99;yarn c 99;weave 4";
            Check.same("wefts that no cell shows do not count", loom(hidden).rowPeriod(), 1);
            String last = "loom 2 9;warp a 0;warp b 1;card a;card a 1;deck 0 1 0;yarn a 99;weave 3";
            Check.same("the last cell differs", loom(last).rowPeriod(), 2);
        });
        Sentence.holds("Returns the number (the number of rows, if", () -> {
            Check.same("without rows", loom(LEAST).rowPeriod(), 0);
            Check.same("one row", cloth("0", 1).rowPeriod(), 1);
            Check.same("two rows", cloth("0 1", 2).rowPeriod(), 2);
            Check.same("two equal rows", cloth("0", 2).rowPeriod(), 1);
            Check.same("sixty rows, the last is another",
                    loom(CARDS + "repeat 20(0 0)repeat 19(0)1;weave 60").rowPeriod(), 60);
            Check.same("sixty rows, the first is another",
                    loom(CARDS + "1 repeat 20(0 0)repeat 19(0);weave 60").rowPeriod(), 60);
            Check.same("sixty equal rows", cloth("0", 60).rowPeriod(), 1);
            Check.same("two rows differ by 59", loom(CARDS + "1 repeat 20(0 0)repeat 18(0)1;weave 60").rowPeriod(), 59);
            Check.same("all rows are removed", loom(CARDS + "0 1;weave 9;unweave 9").rowPeriod(), 0);
        });
        needsSetupAnd(CardLoom::rowPeriod);
    }

    private static int countColour(CardLoom x, int colour) {
        int count = 0;
        for (int row = 0; row < x.rowCount(); row++) {
            for (int warp = 0; warp < x.warpCount(); warp++) {
                count += x.cellColour(row, warp) == colour ? 1 : 0;
            }
        }
        return count;
    }

    private static void shares() {
        promise(36);
        sentence("Returns the share of the cells of the cloth that show the warp.", () -> cloth("2 4", 3).warpShare(),
                4.0f / 12.0f);
        Sentence.holds("Returns the number of these cells, converted to float", () -> {
            Check.same("without rows", loom(LEAST).warpShare(), 0.0f);
            Check.same("without rows again", loom(ONE + ";unweave 1").warpShare(), 0.0f);
            Check.same("none", cloth("0", 3).warpShare(), 0.0f);
            Check.same("all", cloth("1", 3).warpShare(), 1.0f);
            Check.same("the only cell", loom(ONE).warpShare(), 1.0f);
            Check.same("one of two cells", loom(ONE + ";weave 1").warpShare(), 0.5f);
            Check.same("one of many", cloth("2 0 0 0 0 0 0 0 0 0 0 0 0", 13).warpShare(), 1.0f / 52.0f);
            String seventh = "loom 7 9;warp a 0 1 2 3 4 5 6;card b 0;deck 0;yarn b 999;weave ";
            Check.same("in floats", loom(seventh + 60).warpShare(), 60.0f / 420.0f);
            Check.same("a broken warp shows no more", loom(seventh + "1;strain 2;weave 9").warpShare(), 2.0f / 70.0f);
            Check.same("the most cells", loom("loom 2 9;warp e" + Given.repeated(" 0 0 1", 8)
                    + ";card e 0;deck 0;yarn e 999;yarn e 999;weave 60").warpShare(), 960.0f / 1440.0f);
        });
        needsSetupAnd(CardLoom::warpShare);

        promise(37);
        sentence("Returns the average number of harnesses that a card lifts.", () -> loom(CARDS + "0").averageLifts(),
                8.0 / 5.0);
        Sentence.holds("Returns the sum over all cards, converted to double", () -> {
            Check.same("without cards", loom(LEAST).averageLifts(), 0.0);
            Check.same("one card that lifts none", loom(LEAST + ";card a").averageLifts(), 0.0);
            Check.same("one card", loom(ONE).averageLifts(), 1.0);
            Check.same("three cards", loom(LEAST + ";card a;card a 0;card a").averageLifts(), 1.0 / 3.0);
            Check.same("the most",
                    loom("loom 8 9;warp a 0" + Given.repeated(";card a 0 1 2 3 4 5 6 7", 12)).averageLifts(), 8.0);
            Check.same("twelve cards", loom(MOST).averageLifts(), 20.0 / 12.0);
            CardLoom x = loom(MOST);
            x.punch(11, 1);
            Check.same("as they are now", x.averageLifts(), 21.0 / 12.0);
        });
        needsSetupAnd(CardLoom::averageLifts);
    }

    private static void wrongRows() {
        promise(38);
        Sentence.holds("Tells whether a row of the cloth is wrong.", () -> {
            CardLoom x = cloth("0 1", 2);
            x.setCardColour(0, 2);
            x.setCardColour(1, 1);
            x.weave(2);
            Check.same("right ones, a wrong weft, one that is hidden",
                    x.isWrong(0) + " " + x.isWrong(1) + " " + x.isWrong(2) + " " + x.isWrong(3),
                    "false false true false");
            String alike = "loom 2 9;warp a 0;card a 0;deck 0;yarn a 9;punch 0 0;weave 1";
            Check.same("equal colours, but the weft in the warp's place", loom(alike).isWrong(0), true);
        });
        sentence("row: index of a row of the cloth",
                () -> loom(CARDS + "0;dye 0 c;weave 1;dye 0 b;weave 58;invert 0;weave 1").isWrong(0)
                + " " + loom(CARDS + "0;dye 0 c;weave 1;dye 0 b;weave 58;invert 0;weave 1").isWrong(58) + " "
                + loom(CARDS + "0;dye 0 c;weave 1;dye 0 b;weave 58;invert 0;weave 1").isWrong(59), "true false true");
        sentence("Returns true if it is wrong.",
                () -> loom(ONE).isWrong(0) + " " + loom(CARDS + "0;invert 0;weave 1").isWrong(0),
                "false true");
        needsSetupAndTakes(CardLoom::isWrong);
        noSuchRow(CardLoom::isWrong);

        promise(39);
        sentence("Returns the number of rows that are wrong.",
                () -> loom(CARDS + "0 1;weave 4;invert 1;weave 5").wrongCount(), 2);
        Sentence.holds("Returns the number of rows.", () -> {
            Check.same("without rows", loom(CARDS + "0;invert 0").wrongCount(), 0);
            Check.same("none", cloth("0 1 2 3 4", 60).wrongCount(), 0);
            Check.same("one", loom(CARDS + "0;weave 59;invert 0;weave 1").wrongCount(), 1);
            Check.same("all", loom(CARDS + "0;invert 0;weave 60").wrongCount(), 60);
            Check.same("removed ones do not count", loom(CARDS + "0;invert 0;weave 60;unweave 60").wrongCount(), 0);
        });
        needsSetupAnd(CardLoom::wrongCount);

        promise(40);
        sentence("Returns the first row that is wrong.",
                () -> loom(CARDS + "0 1;weave 3;invert 0;weave 5").firstWrongRow(), 4);
        Sentence.holds("Returns index of the row; NONE if no row is wrong.", () -> {
            Check.same("without rows", loom(CARDS + "0;invert 0").firstWrongRow(), CardLoom.NONE);
            Check.same("none", cloth("0 1 2 3 4", 60).firstWrongRow(), CardLoom.NONE);
            Check.same("the first", loom(CARDS + "0;invert 0;weave 60").firstWrongRow(), 0);
            Check.same("the last", loom(CARDS + "0;weave 59;invert 0;weave 1").firstWrongRow(), 59);
            Check.same("it is removed", loom(CARDS + "0;weave 59;invert 0;weave 1;unweave 1").firstWrongRow(),
                    CardLoom.NONE);
        });
        needsSetupAnd(CardLoom::firstWrongRow);
    }

    private static String swap(String deck) {
        CardLoom x = loom(CARDS + deck);
        return x.swapFirst() + " " + x.swapSecond();
    }

    private static void suspectedSwap() {
        String twelve = "loom 2 9;warp a 0" + Given.repeated(";card b", 10)
                + ";card c;card d;yarn c 9;yarn d 9;deck 10 11;swap 10 11;weave 2";
        promise(41);
        sentence("Returns the first card of the suspected swap.",
                () -> loom(CARDS + "3 1;swap 3 1;weave 2").swapFirst(), 1);
        Sentence.holds("Returns index of the card; NONE if there is no suspected swap.", () -> {
            Check.same("no rows", loom(CARDS + "0;swap 0 1").swapFirst(), CardLoom.NONE);
            Check.same("no cards", loom(LEAST).swapFirst(), CardLoom.NONE);
            Check.same("no wrong rows", cloth("0 1", 9).swapFirst(), CardLoom.NONE);
            Check.same("no pair", loom(CARDS + "0;punch 0 2;weave 1").swapFirst(), CardLoom.NONE);
            Check.same("the least", loom(CARDS + "0 4;swap 4 0;weave 2").swapFirst(), 0);
            Check.same("the greatest", loom(twelve).swapFirst(), 10);
            Check.same("no longer", loom(twelve + ";unweave 2").swapFirst(), CardLoom.NONE);
        });
        needsSetupAnd(CardLoom::swapFirst);

        promise(42);
        sentence("Returns the second card of the suspected swap.",
                () -> loom(CARDS + "3 1;swap 3 1;weave 2").swapSecond(), 3);
        Sentence.holds("Returns index of the card; NONE if there is no suspected swap.", () -> {
            Check.same("no rows", loom(CARDS + "0;swap 0 1").swapSecond(), CardLoom.NONE);
            Check.same("no cards", loom(LEAST).swapSecond(), CardLoom.NONE);
            Check.same("no wrong rows", cloth("0 1", 9).swapSecond(), CardLoom.NONE);
            Check.same("no pair", loom(CARDS + "0;punch 0 2;weave 1").swapSecond(), CardLoom.NONE);
            Check.same("the least", swap("0 1;swap 1 0;weave 2"), "0 1");
            Check.same("the greatest", loom(twelve).swapSecond(), 11);
            Check.same("no longer", loom(twelve + ";unweave 2").swapSecond(), CardLoom.NONE);
        });
        needsSetupAnd(CardLoom::swapSecond);
    }
}
