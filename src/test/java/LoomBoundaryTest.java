/** The sentences of promises 7 to 22: harnesses, warps and cards. */
final class LoomBoundaryTest extends Boundary {
    /** All of eight harnesses are lifted by the first card, and stay so by the second one. */
    private static final String ALL_UP = "loom 8 1;warp a 0 1 2 3 4 5 6 7;warp b 0 1 2 3 4 5 6 7;warp c 0 1 2 3 4 5 6 7;"
            + "card b 0 1 2 3 4 5 6 7;card b;deck 0 1;yarn b 999;";
    private static final String TWO_CARDS = "loom 2 9;warp a 0;card b;card c 0 1";

    public static void main(String[] args) {
        harnessesAndWarps();
        warps();
        brokenWarps();
        harnesses();
        wearAndStuck();
        cards();
        liftedAndOpposite();
        Sentence.end("LoomBoundaryTest");
    }

    // ---- promises 7 to 13

    private static void harnessesAndWarps() {
        promise(7);
        sentence("Returns the number of harnesses.", () -> loom(Given.SAMPLE).harnessCount(), 4);
        Sentence.holds("Returns the number, 2 to 8.", () -> {
            for (int n = 2; n <= 8; n++) {
                Check.same("of " + n, loom("loom " + n + " 9;warp a 0").harnessCount(), n);
            }
        });
        needsSetupAnd(CardLoom::harnessCount);

        promise(8);
        sentence("Returns the number of warps.", () -> loom(Given.SAMPLE).warpCount(), 8);
        Sentence.holds("Returns the number, 1 to 24.", () -> {
            for (int n = 1; n <= 24; n++) {
                Check.same("of " + n, loom("loom 2 9;warp a" + Given.repeated(" 0", n)).warpCount(), n);
            }
        });
        needsSetupAnd(CardLoom::warpCount);
    }

    private static void warps() {
        promise(9);
        Sentence.holds("Returns the harness of a warp.", () -> {
            CardLoom x = loom(MOST);
            for (int warp = 0; warp < 24; warp++) {
                Check.same("warp " + warp, x.warpHarness(warp), warp % 8);
            }
        });
        sentence("warp: index of a warp", () -> loom("loom 3 9;warp a 2 0 0 1").warpHarness(0) + " "
                + loom("loom 3 9;warp a 2 0 0 1").warpHarness(3), "2 1");
        sentence("Returns index of the harness.", () -> loom("loom 8 9;warp a 0 7").warpHarness(0) + " "
                + loom("loom 8 9;warp a 0 7").warpHarness(1), "0 7");
        needsSetupAndTakes(CardLoom::warpHarness);
        noSuchWarp(CardLoom::warpHarness);

        promise(10);
        Sentence.holds("Returns the colour of a warp.", () -> {
            CardLoom x = loom(MOST);
            for (int warp = 0; warp < 24; warp++) {
                Check.same("warp " + warp, x.warpColour(warp), warp < 8 ? 0 : warp < 16 ? 1 : 5);
            }
        });
        sentence("warp: index of a warp", () -> loom("loom 3 9;warp c 2;warp a 0;warp d 1").warpColour(0) + " "
                + loom("loom 3 9;warp c 2;warp a 0;warp d 1").warpColour(2), "2 3");
        sentence("Returns number of the colour.", () -> loom("loom 2 9;warp a 1;warp f 1").warpColour(0) + " "
                + loom("loom 2 9;warp a 1;warp f 1").warpColour(1), "0 5");
        needsSetupAndTakes(CardLoom::warpColour);
        noSuchWarp(CardLoom::warpColour);

        promise(11);
        Sentence.holds("Returns the number of warps of a harness.", () -> {
            CardLoom x = loom("loom 4 9;warp a 1 3 3;warp b 3 1;warp a 3");
            Check.same("none, some", x.warpsOn(0) + " " + x.warpsOn(1) + " " + x.warpsOn(2) + " " + x.warpsOn(3),
                    "0 2 0 4");
        });
        sentence("harness: index of a harness", () -> loom(MOST).warpsOn(0) + " " + loom(MOST).warpsOn(7), "3 3");
        Sentence.holds("Returns the number of warps.", () -> {
            Check.same("none", loom(LEAST).warpsOn(1), 0);
            Check.same("one", loom(LEAST).warpsOn(0), 1);
            Check.same("all", loom("loom 8 9;warp a" + Given.repeated(" 7", 24)).warpsOn(7), 24);
            Check.same("broken ones, too", loom(ONE).warpsOn(0), 1);
        });
        needsSetupAndTakes(CardLoom::warpsOn);
        noSuchHarness(CardLoom::warpsOn);
    }

    private static void brokenWarps() {
        String first = "loom 2 9;warp a 0" + Given.repeated(" 1", 22)
                + " 0;card b 0;card b 1;deck 0 1;yarn b 99;strain 1;weave 1";
        promise(12);
        Sentence.holds("Tells whether a warp is broken.", () -> {
            CardLoom x = loom("loom 2 9;warp a 0;card b 0;deck 0;yarn b 9;strain 2");
            x.weave(1);
            Check.same("a row before it breaks", x.isBroken(0), false);
            x.weave(1);
            Check.same("when it breaks", x.isBroken(0), true);
            x.unweave(2);
            Check.same("when the rows are removed", x.isBroken(0), true);
            x.mend(0);
            Check.same("when it is mended", x.isBroken(0), false);
            x.undo();
            Check.same("when that is undone", x.isBroken(0), true);
        });
        sentence("warp: index of a warp",
                () -> loom(first).isBroken(0) + " " + loom(first).isBroken(1) + " " + loom(first).isBroken(22)
                + " " + loom(first).isBroken(23), "true false false true");
        sentence("Returns true if it is broken.", () -> loom(ONE).isBroken(0) + " " + loom(LEAST).isBroken(0),
                "true false");
        needsSetupAndTakes(CardLoom::isBroken);
        noSuchWarp(CardLoom::isBroken);

        promise(13);
        Sentence.holds("Returns the number of broken warps.", () -> {
            CardLoom x = loom(first);
            Check.same("two of 24", x.brokenCount(), 2);
            x.weave(1);
            Check.same("all of 24", x.brokenCount(), 24);
            x.mend(23);
            Check.same("all but the last", x.brokenCount(), 23);
        });
        Sentence.holds("Returns the number of warps.", () -> {
            Check.same("none", loom(LEAST).brokenCount(), 0);
            Check.same("one", loom(ONE).brokenCount(), 1);
            Check.same("all", loom(ALL_UP + "strain 1;weave 1").brokenCount(), 24);
        });
        needsSetupAnd(CardLoom::brokenCount);
    }

    // ---- promises 14 to 16

    private static void harnesses() {
        promise(14);
        Sentence.holds("Tells whether a harness is lifted now.", () -> {
            CardLoom x = loom("loom 2 9;warp a 0;card b 0;card b;deck 0 1;yarn b 9");
            Check.same("at first", x.isLifted(0), false);
            x.weave(1);
            Check.same("lifted", x.isLifted(0) + " " + x.isLifted(1), "true false");
            x.weave(1);
            Check.same("lowered", x.isLifted(0), false);
            x.undo();
            Check.same("undone", x.isLifted(0), true);
            x.unweave(1);
            Check.same("the row is removed", x.isLifted(0), true);
            x.punch(0, 0);
            Check.same("its card is changed", x.isLifted(0), true);
            CardLoom stuck = loom("loom 2 1;warp a 0;card b 0;card b;deck 0 1;yarn b 9;weave 2");
            Check.same("stuck, though the card does not lift it", stuck.isLifted(0), true);
        });
        CardLoom last = loom("loom 8 9;warp a 0;card b 7;deck 0;yarn b 9;weave 1");
        sentence("harness: index of a harness",
                () -> last.isLifted(0) + " " + last.isLifted(6) + " " + last.isLifted(7), "false false true");
        sentence("Returns true if it is lifted.", () -> loom(ONE).isLifted(0) + " " + loom(ONE).isLifted(1),
                "true false");
        needsSetupAndTakes(CardLoom::isLifted);
        noSuchHarness(CardLoom::isLifted);
    }

    private static void wearAndStuck() {
        String turns = "warp a 0;card b 0 7;card b 7;deck 0 1;yarn b 999;";
        promise(15);
        Sentence.holds("Returns the wear of a harness.", () -> {
            CardLoom x = loom("loom 8 5;" + turns + "weave 4");
            Check.same("a row is a move, or none", x.wear(0) + " " + x.wear(7) + " " + x.wear(1), "4 1 0");
            x.unweave(4);
            Check.same("removing rows leaves it", x.wear(0), 4);
        });
        sentence("harness: index of a harness", () -> loom("loom 8 9;" + turns + "weave 2").wear(0) + " "
                + loom("loom 8 9;" + turns + "weave 2").wear(7), "2 1");
        Sentence.holds("Returns the wear.", () -> {
            Check.same("at first", loom(LEAST).wear(0), 0);
            Check.same("up to the wear limit", loom("loom 8 5;" + turns + "weave 20").wear(0), 5);
            Check.same("the wear limit 1", loom(ONE).wear(0), 1);
            CardLoom x = loom(ONE);
            x.oil(0);
            Check.same("oiled", x.wear(0), 0);
        });
        needsSetupAndTakes(CardLoom::wear);
        noSuchHarness(CardLoom::wear);

        promise(16);
        Sentence.holds("Tells whether a harness is stuck.", () -> {
            CardLoom x = loom("loom 8 3;" + turns + "weave 2");
            Check.same("one move before the wear limit", x.isStuck(0), false);
            x.weave(1);
            Check.same("at the wear limit", x.isStuck(0) + " " + x.isStuck(7), "true false");
            x.weave(9);
            Check.same("it stays so", x.isStuck(0), true);
            x.oil(0);
            Check.same("oiled", x.isStuck(0), false);
        });
        sentence("harness: index of a harness", () -> loom("loom 8 2;" + turns + "weave 2").isStuck(0) + " "
                + loom("loom 8 1;" + turns + "weave 1").isStuck(7) + " "
                + loom("loom 8 1;" + turns + "weave 1").isStuck(6),
                "true true false");
        sentence("Returns true if it is stuck.", () -> loom(ONE).isStuck(0) + " " + loom(ONE).isStuck(1), "true false");
        needsSetupAndTakes(CardLoom::isStuck);
        noSuchHarness(CardLoom::isStuck);
    }

    // ---- promises 17 to 22

    private static void cards() {
        promise(17);
        sentence("Returns the number of cards.", () -> loom(Given.SAMPLE).cardCount(), 3);
        Sentence.holds("Returns the number, 0 to 12.", () -> {
            for (int n = 0; n <= 12; n++) {
                Check.same("of " + n, loom(LEAST + Given.repeated(";card a", n)).cardCount(), n);
            }
        });
        needsSetupAnd(CardLoom::cardCount);

        promise(18);
        Sentence.holds("Tells whether a card lifts a harness.", () -> {
            CardLoom x = loom(TWO_CARDS);
            Check.same("none, all", x.lifts(0, 0) + " " + x.lifts(0, 1) + " " + x.lifts(1, 0) + " " + x.lifts(1, 1),
                    "false false true true");
            x.punch(0, 1);
            x.swapCards(0, 1);
            Check.same("as it is now", x.lifts(0, 0) + " " + x.lifts(0, 1) + " " + x.lifts(1, 0) + " " + x.lifts(1, 1),
                    "true true false true");
        });
        sentence("card: index of a card",
                () -> loom(MOST).lifts(0, 0) + " " + loom(MOST).lifts(1, 0) + " " + loom(MOST).lifts(11, 0),
                "false true true");
        sentence("harness: index of a harness", () -> loom(MOST).lifts(11, 7) + " " + loom(MOST).lifts(11, 6),
                "true false");
        sentence("Returns true if it lifts the harness.", () -> loom(ONE).lifts(0, 0) + " " + loom(ONE).lifts(0, 1),
                "true false");
        needsSetupAndTakes((x, i) -> x.lifts(i, i));
        Sentence.holds("Throws IndexOutOfBoundsException if there is no such card or harness", () -> {
            takesIndices(LEAST, 0, (x, i) -> x.lifts(i, 0));
            takesIndices(ONE, 1, (x, i) -> x.lifts(i, 1));
            takesIndices(ONE, 2, (x, i) -> x.lifts(0, i));
            takesIndices(MOST, 12, (x, i) -> x.lifts(i, 7));
            takesIndices(MOST, 8, (x, i) -> x.lifts(11, i));
        });

        promise(19);
        Sentence.holds("Returns the weft colour of a card.", () -> {
            CardLoom x = loom(TWO_CARDS);
            x.setCardColour(0, 5);
            Check.same("as it is now", x.cardColour(0) + " " + x.cardColour(1), "5 2");
        });
        sentence("card: index of a card", () -> loom(MOST).cardColour(0) + " " + loom(MOST).cardColour(11), "0 5");
        sentence("Returns number of the colour.", () -> loom(LEAST + ";card f;card a").cardColour(0) + " "
                + loom(LEAST + ";card f;card a").cardColour(1), "5 0");
        needsSetupAndTakes(CardLoom::cardColour);
        noSuchCard(CardLoom::cardColour);
    }

    private static void liftedAndOpposite() {
        promise(20);
        Sentence.holds("Returns the number of warps whose harness a card lifts.", () -> {
            CardLoom x = loom("loom 3 9;warp a 0 0 1 0;card a 0;card a 1;card a 2;card a 0 1 2;card a 1 2");
            Check.same("of some harnesses",
                    "" + x.liftedWarps(0) + x.liftedWarps(1) + x.liftedWarps(2) + x.liftedWarps(3)
                    + x.liftedWarps(4), "31041");
            Check.same("of a broken warp and a stuck harness, too", loom(ONE).liftedWarps(0), 1);
        });
        sentence("card: index of a card", () -> loom(MOST).liftedWarps(0) + " " + loom(MOST).liftedWarps(11), "0 6");
        Sentence.holds("Returns the number of warps.", () -> {
            Check.same("none", loom(LEAST + ";card a 1").liftedWarps(0), 0);
            Check.same("all", loom(MOST).liftedWarps(10), 24);
        });
        needsSetupAndTakes(CardLoom::liftedWarps);
        noSuchCard(CardLoom::liftedWarps);

        promise(21);
        Sentence.holds("Returns the number of harnesses that exactly one of two cards lifts.", () -> {
            CardLoom x = loom("loom 4 9;warp a 0;card a 0 1;card a 1 2;card a 0 1 2 3");
            Check.same("some", x.liftDistance(0, 1) + " " + x.liftDistance(0, 2) + " " + x.liftDistance(2, 1), "2 2 2");
            Check.same("of harnesses without warps, too", loom(LEAST + ";card a;card a 1").liftDistance(0, 1), 1);
        });
        sentence("card: index of a card", () -> loom(MOST).liftDistance(0, 11) + " " + loom(MOST).liftDistance(11, 0),
                "2 2");
        sentence("other: index of a card",
                () -> loom(MOST).liftDistance(10, 0) + " " + loom(MOST).liftDistance(10, 11), "8 6");
        Sentence.holds("Returns the number of harnesses.", () -> {
            Check.same("of a card and itself", loom(TWO_CARDS).liftDistance(1, 1), 0);
            Check.same("of equal cards", loom(LEAST + ";card a 1;card b 1").liftDistance(0, 1), 0);
            Check.same("all of two", loom(TWO_CARDS).liftDistance(0, 1), 2);
            Check.same("all of eight", loom(MOST).liftDistance(0, 10), 8);
        });
        needsSetupAndTakes((x, i) -> x.liftDistance(i, i));
        noSuchCard((x, i) -> x.liftDistance(i, i));
        promise(22);
        opposites();
    }

    private static void opposites() {
        Sentence.holds("Returns the first card that lifts exactly", () -> {
            CardLoom x = loom("loom 3 9;warp a 0;card a 0;card a 1;card a 1 2;card a 2 1;card a 0");
            Check.same("the first of two", x.oppositeCard(0) + " " + x.oppositeCard(4), "2 2");
            Check.same("before the card", x.oppositeCard(3), 0);
            Check.same("not some of them", x.oppositeCard(1), CardLoom.NONE);
            x.punch(4, 2);
            Check.same("as it is now", x.oppositeCard(1), 4);
        });
        sentence("card: index of a card", () -> loom(MOST).oppositeCard(0) + " " + loom(MOST).oppositeCard(11),
                "10 -1");
        Sentence.holds("Returns index of the card; NONE if there is none.", () -> {
            Check.same("all and nothing", loom(TWO_CARDS).oppositeCard(0) + " " + loom(TWO_CARDS).oppositeCard(1),
                    "1 0");
            Check.same("one card", loom(LEAST + ";card a").oppositeCard(0), CardLoom.NONE);
            Check.same("one card that lifts all", loom(LEAST + ";card a 0 1").oppositeCard(0), CardLoom.NONE);
            for (int n = 1; n <= 12; n++) {
                CardLoom x = loom(LEAST + Given.repeated(";card a;card b", 6));
                Given.parse(x, LEAST + Given.repeated(";card a", 12));
                Given.parse(x, LEAST + Given.repeated(";card f 0 1", n));
                Check.same("none of " + n + " cards lifts nothing", x.oppositeCard(n - 1), CardLoom.NONE);
            }
            Check.same("the last card", loom("loom 8 9;warp a 0;card a 0" + Given.repeated(";card a", 10)
                    + ";card b 1 2 3 4 5 6 7").oppositeCard(0), 11);
            Check.same("harnesses without warps count", loom("loom 3 9;warp a 0;card a 0;card a 1").oppositeCard(0),
                    CardLoom.NONE);
        });
        needsSetupAndTakes(CardLoom::oppositeCard);
        noSuchCard(CardLoom::oppositeCard);
    }
}
