/** The sentences of promises 54 to 65: changes, undoing, saving and restoring. */
final class ChangeBoundaryTest extends Boundary {
    private static final String CARDS = "loom 2 200;warp a 0 1;card b;card c 0;card d 0 1;yarn b 999;yarn c 999;yarn d 999;deck ";
    /** Warps 0 and 23 are broken; harness 0 is stuck. */
    private static final String BROKEN = "loom 2 1;warp a 0" + Given.repeated(" 1", 22)
            + " 0;card b 0;deck 0;yarn b 99;strain 1;weave 1";

    public static void main(String[] args) {
        weaving();
        removing();
        swapping();
        punching();
        colouring();
        bringing();
        oiling();
        mending();
        undoing();
        saving();
        restoring();
        Sentence.end("ChangeBoundaryTest");
    }

    private static void weaving() {
        promise(54);
        Sentence.holds("Weaves some picks, one after the other, until there is an obstacle.", () -> {
            CardLoom x = loom(CARDS + "0 1 2");
            x.weave(4);
            Check.same("in the deck's order", Given.row(x, 0) + Given.row(x, 1) + Given.row(x, 2) + Given.row(x, 3),
                    "bbAcAAbb");
            CardLoom little = loom("loom 2 9;warp a 0 1;card b;card c 0;deck 0 1;yarn b 9;yarn c 3");
            Check.same("until the yarn is too little",
                    little.weave(60) + " " + little.rowCount() + " " + little.weaveObstacle(), "3 3 3");
            Check.same("no yarn is used for a pick that is not woven", little.yarn(1) + " " + little.yarn(2), "5 1");
            CardLoom weak = loom(CARDS + "0 1 2;motor 1");
            Check.same("until the motor is too weak",
                    weak.weave(60) + " " + weak.rowCount() + " " + weak.weaveObstacle(), "2 2 4");
            CardLoom full = loom(CARDS + "0;weave 58");
            Check.same("until sixty rows", full.weave(60) + " " + full.rowCount() + " " + full.weaveObstacle(),
                    "2 60 2");
            Check.same("no picks", loom(LEAST).weave(60), 0);
        });
        Sentence.holds("picks: number of picks, 1 to 60", () -> {
            Check.same("the least", loom(CARDS + "0").weave(1), 1);
            Check.same("the most", loom(CARDS + "0").weave(60), 60);
        });
        Sentence.holds("Returns the number of picks that were woven.", () -> {
            for (int picks = 1; picks <= 60; picks++) {
                CardLoom x = loom(CARDS + "0;weave 10");
                Check.same("of " + picks, x.weave(picks), Math.min(picks, 50));
                Check.same("the rows of " + picks, x.rowCount(), Math.min(picks, 50) + 10);
            }
            Check.same("none at an obstacle", loom(CARDS + "0;weave 60").weave(1), 0);
            Check.same("none without yarn", loom("loom 2 9;warp a 0;card a;deck 0").weave(60), 0);
        });
        needsSetupAndTakes(CardLoom::weave);
        Sentence.holds("Throws IllegalArgumentException if picks is out of range", () -> {
            takesRange(CARDS + "0", 1, 60, CardLoom::weave);
            takesRange(LEAST, 1, 60, CardLoom::weave);
            takesRange(MOST, 1, 60, CardLoom::weave);
        });
    }

    private static void removing() {
        promise(55);
        Sentence.holds("Removes the last rows of the cloth (section 4).", () -> {
            CardLoom x = loom(CARDS + "0 1 2;weave 3");
            x.unweave(1);
            Check.same("the last one", Given.row(x, 0) + Given.row(x, 1), "bbAc");
            Check.same("its yarn", x.yarn(3) + " " + x.yarn(2), "999 997");
            Check.fails("no such row", Check.INDEX, () -> x.writeRow(2));
            Check.same("the next pick", x.nextCard(), 2);
            x.unweave(2);
            Check.fails("no row", Check.INDEX, () -> x.writeRow(0));
            Check.same("all yarn", x.yarn(1) + " " + x.yarn(2) + " " + x.yarn(3), "999 999 999");
        });
        Sentence.holds("rows: number of rows, 1 to the number of rows of the cloth", () -> {
            for (int rows = 1; rows <= 60; rows++) {
                CardLoom x = loom(CARDS + "0;weave " + rows);
                int all = rows;
                refused("none of " + rows, x, Check.ARGUMENT, y -> y.unweave(0));
                refused("one more than " + rows, x, Check.ARGUMENT, y -> y.unweave(all + 1));
                Check.same("all of " + rows, x.unweave(rows), 0);
                refused("one of none", x, Check.ARGUMENT, y -> y.unweave(1));
            }
        });
        Sentence.holds("Returns the number of rows afterwards.", () -> {
            CardLoom x = loom(MOST);
            Check.same("one of sixty", x.unweave(1), 59);
            Check.same("all but one", x.unweave(58), 1);
            Check.same("the last", x.unweave(1), 0);
        });
        needsSetupAndTakes(CardLoom::unweave);
        Sentence.holds("Throws IllegalArgumentException if rows is out of range", () -> {
            takesRange(LEAST, 1, 0, CardLoom::unweave);
            takesRange(ONE, 1, 1, CardLoom::unweave);
            takesRange(CARDS + "0;weave 9", 1, 9, CardLoom::unweave);
            takesRange(MOST, 1, 60, CardLoom::unweave);
        });
    }

    private static String cards(CardLoom x) {
        StringBuilder text = new StringBuilder();
        for (int card = 0; card < x.cardCount(); card++) {
            text.append(Given.card(x, card)).append(',');
        }
        return text.toString();
    }

    private static void swapping() {
        promise(56);
        Sentence.holds("Exchanges what two cards lift and their weft colours.", () -> {
            CardLoom x = loom(CARDS + "0");
            x.swapCards(0, 2);
            Check.same("the first and the last", cards(x), "oo d,o. c,.. b,");
            x.swapCards(2, 0);
            Check.same("back again", cards(x), ".. b,o. c,oo d,");
            x.swapCards(1, 1);
            Check.same("the same card", cards(x), ".. b,o. c,oo d,");
            CardLoom most = loom(MOST);
            most.swapCards(0, 10);
            Check.same("none and all", Given.card(most, 0) + " " + Given.card(most, 10), "oooooooo e ........ a");
        });
        sentence("card: index of a card", () -> loom(MOST).swapCards(0, 1) + " " + loom(MOST).swapCards(11, 1),
                "18 17");
        Sentence.holds("other: index of a card, which may be the same", () -> {
            CardLoom x = loom(ONE);
            String before = Answers.ofTheLoom(x);
            Check.same("the same", x.swapCards(0, 0), 1);
            Check.same("nothing is changed", Answers.ofTheLoom(x), before);
            Check.same("the last and the last", loom(MOST).swapCards(11, 11), 8);
            Check.same("the first and the last", loom(MOST).swapCards(0, 11), 17);
        });
        Sentence.holds("Returns the number of picks of the deck that have one of these cards.", () -> {
            Check.same("no picks", loom(LEAST + ";card a;card b").swapCards(0, 1), 0);
            Check.same("none of the picks", loom(CARDS + "0 0").swapCards(1, 2), 0);
            Check.same("of both", loom(CARDS + "0 1 0 2").swapCards(0, 1), 3);
            Check.same("of the other one alone", loom(CARDS + "0 1 0 2").swapCards(2, 2), 1);
            Check.same("each pick once", loom(CARDS + "0 1 0 2").swapCards(0, 0), 2);
            Check.same("all of a hundred", loom(CARDS + "repeat 20(0 1 0 1 0)").swapCards(0, 1), 100);
            Check.same("all of a hundred of one card", loom(CARDS + "repeat 20(0 0 0 0 0)").swapCards(0, 0), 100);
        });
        needsSetupAndTakes((x, i) -> x.swapCards(i, i));
        Sentence.holds("Throws IndexOutOfBoundsException if there is no such card", () -> {
            for (String setup : new String[] {LEAST, ONE, MOST}) {
                int count = loom(setup).cardCount();
                takesIndices(setup, count, (x, i) -> x.swapCards(i, i));
                if (count > 0) {
                    takesIndices(setup, count, (x, i) -> x.swapCards(i, 0));
                    takesIndices(setup, count, (x, i) -> x.swapCards(0, i));
                }
            }
        });
    }

    private static void punching() {
        promise(57);
        Sentence.holds("Changes whether a card lifts a harness.", () -> {
            CardLoom x = loom(CARDS + "0");
            x.punch(0, 1);
            Check.same("on", cards(x), ".o b,o. c,oo d,");
            x.punch(2, 0);
            Check.same("off", cards(x), ".o b,o. c,.o d,");
            x.punch(2, 0);
            Check.same("on again", cards(x), ".o b,o. c,oo d,");
        });
        Sentence.holds("card: index of a card", () -> {
            CardLoom x = loom(MOST);
            x.punch(0, 3);
            x.punch(11, 3);
            Check.same("the first and the last", Given.card(x, 0) + " " + Given.card(x, 11) + " " + Given.card(x, 1),
                    "...o.... a o..o...o f o....... b");
        });
        Sentence.holds("harness: index of a harness", () -> {
            CardLoom x = loom(MOST);
            x.punch(0, 0);
            x.punch(0, 7);
            Check.same("the first and the last", Given.card(x, 0), "o......o a");
        });
        sentence("Returns true if the card lifts the harness afterwards.",
                () -> loom(ONE).punch(0, 1) + " " + loom(ONE).punch(0, 0),
                "true false");
        needsSetupAndTakes((x, i) -> x.punch(i, i));
        Sentence.holds("Throws IndexOutOfBoundsException if there is no such card or harness", () -> {
            takesIndices(LEAST, 0, (x, i) -> x.punch(i, 0));
            takesIndices(ONE, 1, (x, i) -> x.punch(i, 1));
            takesIndices(ONE, 2, (x, i) -> x.punch(0, i));
            takesIndices(MOST, 12, (x, i) -> x.punch(i, 7));
            takesIndices(MOST, 8, (x, i) -> x.punch(11, i));
        });
    }

    private static void colouring() {
        promise(58);
        Sentence.holds("Sets the weft colour of a card.", () -> {
            CardLoom x = loom(CARDS + "0");
            x.setCardColour(0, 5);
            x.setCardColour(2, 0);
            Check.same("of these alone", cards(x), ".. f,o. c,oo a,");
        });
        sentence("card: index of a card", () -> loom(MOST).setCardColour(0, 3) + " " + loom(MOST).setCardColour(11, 3),
                "0 5");
        Sentence.holds("colour: number of a colour, 0 to 5", () -> {
            for (int colour = 0; colour <= 5; colour++) {
                CardLoom x = loom(CARDS + "0");
                x.setCardColour(1, colour);
                Check.same("set to " + colour, x.cardColour(1), colour);
            }
        });
        Sentence.holds("Returns number of the previous colour.", () -> {
            CardLoom x = loom(CARDS + "0");
            Check.same("of the setup", x.setCardColour(0, 5), 1);
            Check.same("the greatest", x.setCardColour(0, 0), 5);
            Check.same("the least", x.setCardColour(0, 0), 0);
            Check.same("the same again", x.setCardColour(0, 1), 0);
        });
        needsSetupAndTakes((x, i) -> x.setCardColour(i, i));
        Sentence.holds("Throws IndexOutOfBoundsException if there is no such card", () -> {
            takesIndices(LEAST, 0, (x, i) -> x.setCardColour(i, 0));
            takesIndices(ONE, 1, (x, i) -> x.setCardColour(i, 5));
            takesIndices(MOST, 12, (x, i) -> x.setCardColour(i, 5));
            for (int colour : new int[] {-1, 6, Integer.MIN_VALUE, Integer.MAX_VALUE}) {
                refused("a colour out of range, too", loom(ONE), Check.INDEX, x -> x.setCardColour(1, colour));
                refused("a colour out of range, too", loom(ONE), Check.INDEX, x -> x.setCardColour(-1, colour));
            }
        });
        noSuchColour((x, colour) -> x.setCardColour(0, colour));
    }

    private static void bringing() {
        promise(59);
        Sentence.holds("Brings yarn of a colour.", () -> {
            CardLoom x = loom(CARDS + "0");
            x.bringYarn(0, 7);
            Check.same("of this one alone", x.yarn(0) + " " + x.yarn(1) + " " + x.yarn(5), "7 999 0");
        });
        sentence("colour: number of a colour, 0 to 5",
                () -> loom(ONE).bringYarn(0, 9) + " " + loom(ONE).bringYarn(5, 9), "9 9");
        sentence("amount: the amount, 1 to 999",
                () -> loom(LEAST).bringYarn(3, 1) + " " + loom(LEAST).bringYarn(3, 999), "1 999");
        Sentence.holds("Returns the amount of yarn of the colour afterwards.", () -> {
            CardLoom x = loom(LEAST);
            for (int n = 1; n <= 450; n++) {
                Check.same("after " + n, x.bringYarn(5, 999), 999 * n);
            }
        });
        needsSetupAndTakes((x, i) -> x.bringYarn(i, i));
        Sentence.holds("Throws IllegalArgumentException if colour or amount is out of range", () -> {
            for (String setup : new String[] {LEAST, MOST}) {
                takesRange(setup, 0, 5, (x, colour) -> x.bringYarn(colour, 1));
                takesRange(setup, 0, 5, (x, colour) -> x.bringYarn(colour, 999));
                takesRange(setup, 1, 999, (x, amount) -> x.bringYarn(0, amount));
                takesRange(setup, 1, 999, (x, amount) -> x.bringYarn(5, amount));
            }
        });
    }

    private static String harness(CardLoom x, int harness) {
        return x.isLifted(harness) + " " + x.wear(harness) + " " + x.isStuck(harness);
    }

    private static void oiling() {
        promise(60);
        Sentence.holds("Oils a harness: its wear becomes 0, and it is not stuck any more.", () -> {
            String all = "loom 8 1;warp a 0;card b 0 1 2 3 4 5 6 7;card b;deck 0 1;yarn b 99;weave 1";
            for (int oiled = 0; oiled < 8; oiled++) {
                CardLoom x = loom(all);
                x.oil(oiled);
                for (int harness = 0; harness < 8; harness++) {
                    Check.same("harness " + harness, harness(x, harness), harness == oiled
                            ? "true 0 false" : "true 1 true");
                }
                x.weave(1);
                Check.same("it moves again, to the wear limit", harness(x, oiled), "false 1 true");
            }
            CardLoom worn = loom("loom 2 3;warp a 0;card b 0;card b;deck 0 1;yarn b 99;weave 2");
            worn.oil(0);
            worn.weave(2);
            Check.same("the wear begins anew", harness(worn, 0), "false 2 false");
        });
        sentence("harness: index of a harness",
                () -> loom("loom 8 1;warp a 0;card b 0 7;deck 0;yarn b 9;weave 1").oil(0) + " "
                + loom("loom 8 1;warp a 0;card b 0 7;deck 0;yarn b 9;weave 1").oil(7), "1 1");
        Sentence.holds("Returns the wear before.", () -> {
            Check.same("none", loom(LEAST).oil(0), 0);
            Check.same("the wear limit", loom(ONE).oil(0), 1);
            CardLoom x = loom(CARDS + "0 2;weave 60");
            Check.same("59", x.oil(1), 59);
            Check.same("oiled already", x.oil(1), 0);
            Check.same("the other one's wear stays", x.wear(0), 59);
        });
        needsSetupAndTakes(CardLoom::oil);
        noSuchHarness(CardLoom::oil);
    }

    private static void mending() {
        promise(61);
        Sentence.holds("Mends a warp: it is not broken any more.", () -> {
            CardLoom x = loom(BROKEN);
            x.mend(23);
            Check.same("this one alone", x.isBroken(0) + " " + x.isBroken(23), "true false");
            x.mend(0);
            Check.same("the other one", x.isBroken(0) + " " + x.isBroken(23), "false false");
            x.weave(1);
            Check.same("they show again", Given.row(x, 1), "A" + "b".repeat(22) + "A");
        });
        sentence("warp: index of a warp", () -> loom(BROKEN).mend(0) + " " + loom(BROKEN).mend(23), "1 1");
        Sentence.holds("Returns the number of broken warps afterwards.", () -> {
            Check.same("none", loom(ONE).mend(0), 0);
            CardLoom x = loom("loom 2 9;warp a" + Given.repeated(" 0", 24)
                    + ";card b 0;deck 0;yarn b 99;strain 1;weave 1");
            for (int warp = 0; warp < 24; warp++) {
                Check.same("mended " + warp, x.mend(warp), 23 - warp);
            }
        });
        needsSetupAndTakes(CardLoom::mend);
        Sentence.holds("Throws IndexOutOfBoundsException if there is no such warp", () -> {
            takesIndices(ONE, 1, CardLoom::mend);
            takesIndices("loom 2 9;warp a 0 0 0;card b 0;deck 0;yarn b 99;strain 1;weave 1", 3, CardLoom::mend);
            takesIndices("loom 2 9;warp a" + Given.repeated(" 0", 24) + ";card b 0;deck 0;yarn b 99;strain 1;weave 1",
                    24, CardLoom::mend);
        });
        Sentence.holds("Throws IllegalArgumentException if the warp is not broken", () -> {
            refused("never broken", loom(LEAST), Check.ARGUMENT, x -> x.mend(0));
            for (int warp = 1; warp <= 22; warp++) {
                int whole = warp;
                refused("warp " + warp, loom(BROKEN), Check.ARGUMENT, x -> x.mend(whole));
            }
            CardLoom x = loom(BROKEN);
            x.mend(0);
            refused("mended already", x, Check.ARGUMENT, y -> y.mend(0));
            x.undo();
            Check.same("broken again, as that is undone", x.mend(0), 1);
        });
    }

    private static void undoing() {
        promise(62);
        Sentence.holds("Undoes the latest change that has not been undone.", () -> {
            CardLoom x = loom(CARDS + "0 1 2");
            x.weave(2);
            x.setCardColour(0, 5);
            x.unweave(1);
            x.undo();
            Check.same("the latest", x.rowCount() + " " + x.cardColour(0), "2 5");
            x.undo();
            Check.same("the one before", x.rowCount() + " " + x.cardColour(0), "2 1");
            x.punch(1, 1);
            x.undo();
            Check.same("a later one", x.rowCount() + " " + x.lifts(1, 1), "2 false");
            x.undo();
            Check.same("the first", x.rowCount(), 0);
        });
        Sentence.holds("Returns the number of changes that can still be undone.", () -> {
            CardLoom x = loom(LEAST);
            for (int n = 0; n < 12; n++) {
                x.bringYarn(0, 1);
            }
            for (int left = 7; left >= 0; left--) {
                Check.same("left", x.undo() + " " + x.undoCount(), left + " " + left);
            }
        });
        Sentence.holds("Throws IllegalStateException if there is nothing to undo", () -> {
            refused("a new object", new CardLoom(), Check.STATE, CardLoom::undo);
            refused("a new loom", loom(MOST), Check.STATE, CardLoom::undo);
            CardLoom x = loom(ONE);
            x.saveState(0);
            refused("a saved state", x, Check.STATE, CardLoom::undo);
            Check.fails("a refused change", Check.ARGUMENT, () -> x.weave(0));
            refused("a refused change", x, Check.STATE, CardLoom::undo);
            x.weave(1);
            x.undo();
            refused("all is undone", x, Check.STATE, CardLoom::undo);
            x.weave(1);
            x.restoreState(0);
            refused("a restored state", x, Check.STATE, CardLoom::undo);
            x.weave(1);
            Given.parse(x, ONE);
            refused("a new setup", x, Check.STATE, CardLoom::undo);
        });

        promise(63);
        Sentence.holds("Returns the number of changes that can be undone.", () -> {
            CardLoom x = loom(ONE);
            x.weave(1);
            x.oil(1);
            Check.same("two", x.undoCount(), 2);
            x.undo();
            Check.same("one of them is undone", x.undoCount(), 1);
        });
        Sentence.holds("Returns the number, 0 to 8.", () -> {
            Check.same("without a setup", new CardLoom().undoCount(), 0);
            CardLoom x = loom(ONE);
            for (int n = 0; n <= 20; n++) {
                Check.same("after " + n, x.undoCount(), Math.min(n, 8));
                x.swapCards(0, 0);
            }
        });
    }

    private static void saving() {
        promise(64);
        Sentence.holds("Saves the state of the loom in a slot.", () -> {
            for (String setup : new String[] {LEAST, ONE, MOST, BROKEN}) {
                CardLoom x = loom(setup);
                String saved = Answers.ofTheLoom(x);
                x.saveState(0);
                Check.same("it stays as it is", Answers.ofTheLoom(x), saved);
                changeAll(x);
                x.saveState(1);
                String changed = Answers.ofTheLoom(x);
                x.restoreState(0);
                Check.same("the saved state", Answers.ofTheLoom(x), saved);
                changeAll(x);
                x.restoreState(1);
                Check.same("the other one", Answers.ofTheLoom(x), changed);
            }
            CardLoom x = loom(ONE);
            for (int n = 1; n <= 8; n++) {
                x.bringYarn(0, 1);
                x.saveState(n % 2);
                Check.same("saving leaves the changes to undo", x.undoCount(), n);
            }
            Check.same("they are undone", x.undo() + " " + x.yarn(0), "7 7");
        });
        Sentence.holds("A state that was saved there before is lost.", () -> {
            for (int slot = 0; slot <= 1; slot++) {
                CardLoom x = loom(ONE);
                x.saveState(1 - slot);
                x.bringYarn(5, 5);
                x.saveState(slot);
                x.bringYarn(5, 5);
                x.saveState(slot);
                x.bringYarn(5, 5);
                x.restoreState(slot);
                Check.same("the later one", x.yarn(5), 10);
                x.restoreState(1 - slot);
                Check.same("not in the other slot", x.yarn(5), 0);
            }
        });
        sentence("slot: index of the slot, 0 or 1", () -> loom(ONE).saveState(0) + " " + loom(ONE).saveState(1), "1 1");
        sentence("Returns the number of rows.",
                () -> loom(LEAST).saveState(0) + " " + loom(ONE).saveState(1) + " " + loom(MOST).saveState(0),
                "0 1 60");
        needsSetupAndTakes(CardLoom::saveState);
        Sentence.holds("Throws IndexOutOfBoundsException if there is no such slot", () -> {
            takesIndices(LEAST, 2, CardLoom::saveState);
            takesIndices(MOST, 2, CardLoom::saveState);
        });
    }

    /** Whatever calls can change of the state. */
    private static void changeAll(CardLoom x) {
        for (int colour = 0; colour < 6; colour++) {
            x.bringYarn(colour, 99);
        }
        if (x.rowCount() > 1) {
            x.unweave(x.rowCount() / 2);
        }
        for (int harness = 0; harness < x.harnessCount(); harness++) {
            x.oil(harness);
        }
        for (int warp = 0; warp < x.warpCount(); warp++) {
            if (x.isBroken(warp)) {
                x.mend(warp);
            }
        }
        for (int card = 0; card < x.cardCount(); card++) {
            x.punch(card, card % 2);
            x.setCardColour(card, 5);
        }
        x.weave(7);
    }

    private static void restoring() {
        promise(65);
        Sentence.holds("Restores the state that was saved in a slot.", () -> {
            CardLoom x = loom(BROKEN);
            x.saveState(0);
            String saved = Answers.ofTheLoom(x);
            x.unweave(1);
            x.restoreState(0);
            Check.same("removed rows", Answers.ofTheLoom(x), saved);
            x.weave(9);
            x.restoreState(0);
            Check.same("woven rows", Answers.ofTheLoom(x), saved);
            changeAll(x);
            x.restoreState(0);
            Check.same("all changes", Answers.ofTheLoom(x), saved);
            x.restoreState(0);
            Check.same("no change", Answers.ofTheLoom(x), saved);
            x.weave(1);
            Check.same("the strain limit and the broken warps", Given.row(x, 1), "b".repeat(24));
        });
        Sentence.holds("It stays saved.", () -> {
            CardLoom x = loom(ONE);
            x.saveState(1);
            for (int n = 0; n < 3; n++) {
                Check.same("restored", x.restoreState(1), 1);
                changeAll(x);
                x.undo();
                x.unweave(x.rowCount());
            }
        });
        Sentence.holds("The undo history is cleared.", () -> {
            CardLoom x = loom(ONE);
            x.saveState(0);
            for (int n = 0; n < 9; n++) {
                x.bringYarn(0, 1);
            }
            x.restoreState(0);
            Check.same("no changes", x.undoCount(), 0);
            refused("nothing to undo", x, Check.STATE, CardLoom::undo);
            x.bringYarn(0, 1);
            Check.fails("a refused one", Check.STATE, () -> x.restoreState(1));
            Check.fails("another", Check.INDEX, () -> x.restoreState(2));
            Check.same("they clear nothing", x.undoCount() + " " + x.undo() + " " + x.yarn(0), "1 0 0");
        });
        Sentence.holds("slot: index of the slot, 0 or 1", () -> {
            CardLoom x = loom(ONE);
            x.saveState(0);
            x.unweave(1);
            x.saveState(1);
            Check.same("each has its own", x.restoreState(0) + " " + x.restoreState(1), "1 0");
        });
        Sentence.holds("Returns the number of rows of the restored state.", () -> {
            CardLoom x = loom(MOST);
            x.saveState(0);
            x.unweave(60);
            x.saveState(1);
            Check.same("sixty, then none", x.restoreState(0) + " " + x.restoreState(1), "60 0");
        });
        Sentence.holds("Throws IndexOutOfBoundsException if there is no such slot", () -> {
            for (int bad : FAR) {
                refused("slot " + bad, new CardLoom(), Check.INDEX, x -> x.restoreState(bad));
                refused("slot " + bad, loom(ONE), Check.INDEX, x -> x.restoreState(bad));
                CardLoom x = loom(ONE);
                x.saveState(0);
                x.saveState(1);
                refused("slot " + bad, x, Check.INDEX, y -> y.restoreState(bad));
            }
        });
        Sentence.holds("Throws IllegalStateException if no state is saved in the slot", () -> {
            for (int slot = 0; slot <= 1; slot++) {
                int asked = slot;
                refused("a new object", new CardLoom(), Check.STATE, x -> x.restoreState(asked));
                refused("a new loom", loom(MOST), Check.STATE, x -> x.restoreState(asked));
                CardLoom x = loom(ONE);
                x.saveState(1 - slot);
                refused("the other slot", x, Check.STATE, y -> y.restoreState(asked));
                x.saveState(slot);
                Given.parse(x, ONE);
                refused("a later setup", x, Check.STATE, y -> y.restoreState(asked));
            }
        });
    }
}
