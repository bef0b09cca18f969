/** The sentences of promises 43 to 49: yarn, predictions and the invariants. */
final class YarnBoundaryTest extends Boundary {
    /** Three warps, and cards that lift none, harness 0, and both. */
    private static final String CARDS = "loom 2 200;warp a 0 0 1;card b;card c 0;card d 0 1;";

    public static void main(String[] args) {
        yarn();
        nextPick();
        predictions();
        imbalance();
        Sentence.end("YarnBoundaryTest");
    }

    private static void yarn() {
        promise(43);
        Sentence.holds("Returns the amount of yarn of a colour.", () -> {
            CardLoom x = loom(CARDS + "deck 0 1;yarn b 9;yarn c 9");
            x.weave(2);
            Check.same("woven", x.yarn(1) + " " + x.yarn(2), "6 6");
            x.unweave(1);
            Check.same("removed", x.yarn(1) + " " + x.yarn(2), "6 9");
            x.bringYarn(2, 1);
            Check.same("brought", x.yarn(1) + " " + x.yarn(2), "6 10");
            x.undo();
            Check.same("undone", x.yarn(1) + " " + x.yarn(2), "6 9");
        });
        sentence("colour: number of a colour, 0 to 5", () -> loom(LEAST + ";yarn a 1;yarn f 6").yarn(0) + " "
                + loom(LEAST + ";yarn a 1;yarn f 6").yarn(5), "1 6");
        Sentence.holds("Returns the amount.", () -> {
            Check.same("at first", loom(LEAST).yarn(0), 0);
            Check.same("all is woven", loom(CARDS + "deck 0;yarn b 3;weave 1").yarn(1), 0);
            CardLoom x = loom(LEAST + ";yarn a 999");
            for (int n = 0; n < 400; n++) {
                x.bringYarn(0, 999);
            }
            Check.same("very much", x.yarn(0), 401 * 999);
        });
        needsSetupAndTakes(CardLoom::yarn);
        noSuchColour(CardLoom::yarn);

        promise(44);
        Sentence.holds("Returns the amount of yarn of a colour that is needed", () -> {
            String deck = CARDS + "yarn b 99;yarn c 99;yarn d 99;deck 0 1 1 2";
            Check.same("of all picks", needed(deck), "3 6 3");
            Check.same("of all but the first", needed(deck + ";weave 1"), "0 6 3");
            Check.same("of the last two", needed(deck + ";weave 2"), "0 3 3");
            Check.same("of the last", needed(deck + ";weave 3"), "0 0 3");
            Check.same("from the first again", needed(deck + ";weave 4"), "3 6 3");
            Check.same("the second time", needed(deck + ";weave 7"), "0 0 3");
            Check.same("with sixty rows", needed(deck + ";weave 60"), "3 6 3");
            Check.same("by the colours now", needed(deck + ";weave 3;dye 2 b"), "3 0 0");
            Check.same("yarn that is there does not count", needed(deck + ";yarn b 999"), "3 6 3");
        });
        sentence("colour: number of a colour, 0 to 5",
                () -> loom(LEAST + ";card a;card f;deck 0 1 1").yarnNeeded(0) + " "
                + loom(LEAST + ";card a;card f;deck 0 1 1").yarnNeeded(5), "1 2");
        Sentence.holds("Returns the amount; 0 without picks.", () -> {
            for (int colour = 0; colour < 6; colour++) {
                Check.same("no picks", loom(CARDS + "yarn b 9").yarnNeeded(colour), 0);
                Check.same("no cards", loom(LEAST).yarnNeeded(colour), 0);
            }
            Check.same("one pick of one warp", loom(ONE).yarnNeeded(1), 1);
            Check.same("another colour", loom(ONE).yarnNeeded(0), 0);
            Check.same("the most",
                    loom("loom 2 9;warp a" + Given.repeated(" 0", 24)
                    + ";card a;deck repeat 20(0 0 0 0 0)").yarnNeeded(0), 2400);
            Check.same("of a hundred picks with sixty rows",
                    loom(LEAST + ";card a;yarn a 60;deck repeat 20(0 0 0 0 0);weave 60")
                    .yarnNeeded(0), 40);
        });
        needsSetupAndTakes(CardLoom::yarnNeeded);
        noSuchColour(CardLoom::yarnNeeded);
    }

    private static String needed(String setup) {
        CardLoom x = loom(setup);
        return x.yarnNeeded(1) + " " + x.yarnNeeded(2) + " " + x.yarnNeeded(3);
    }

    private static void nextPick() {
        promise(45);
        sentence("Returns the card of the next pick.",
                () -> loom(CARDS + "deck 2 1 0;yarn b 9;yarn c 9;yarn d 9;weave 1").nextCard(), 1);
        Sentence.holds("Returns index of the card; NONE without picks.", () -> {
            Check.same("no picks", loom(CARDS + "yarn b 9").nextCard(), CardLoom.NONE);
            Check.same("no cards", loom(LEAST).nextCard(), CardLoom.NONE);
            Check.same("the first pick", loom(CARDS + "deck 2 1 0").nextCard(), 2);
            String three = CARDS + "deck 2 1 0;yarn b 99;yarn c 99;yarn d 99;weave ";
            Check.same("the last pick", loom(three + 2).nextCard(), 0);
            Check.same("the first one again", loom(three + 3).nextCard(), 2);
            Check.same("with sixty rows", loom(three + 60).nextCard(), 2);
            Check.same("with sixty rows less one", loom(three + 59).nextCard(), 0);
            Check.same("without yarn", loom(CARDS + "deck 0").nextCard(), 0);
            Check.same("the last card", loom(LEAST + Given.repeated(";card a", 12) + ";deck 11").nextCard(), 11);
        });
        needsSetupAnd(CardLoom::nextCard);

        promise(46);
        Sentence.holds("Tells why the next pick can not be woven.", () -> {
            CardLoom x = loom(CARDS + "deck 0 2;yarn b 9;yarn d 9;motor 2");
            Check.same("the first pick can", x.weaveObstacle() + " " + x.weave(1), "0 1");
            Check.same("the second one can not", x.weaveObstacle() + " " + x.weave(1), "4 0");
            x.punch(2, 1);
            Check.same("it can when its card is changed", x.weaveObstacle() + " " + x.weave(1), "0 1");
        });
        Sentence.holds("Returns 0 if it can be woven; otherwise the obstacle", () -> {
            Check.same("0", loom(CARDS + "deck 2;yarn d 3;motor 3").weaveObstacle(), 0);
            Check.same("0, with 59 rows", loom(CARDS + "deck 2;yarn d 180;motor 3;weave 59").weaveObstacle(), 0);
            Check.same("1: no picks", loom(CARDS + "yarn d 3;motor 2").weaveObstacle(), 1);
            Check.same("2: 60 rows", loom(CARDS + "deck 2;yarn d 180;weave 60;motor 2").weaveObstacle(), 2);
            Check.same("3: one too little", loom(CARDS + "deck 2;yarn d 2;motor 2").weaveObstacle(), 3);
            Check.same("4: one too many", loom(CARDS + "deck 2;yarn d 3;motor 2").weaveObstacle(), 4);
        });
        needsSetupAnd(CardLoom::weaveObstacle);
    }

    /** A prediction has to be what weaving gives, and to change nothing. */
    private static int possible(String setup) {
        CardLoom x = loom(setup);
        String before = Answers.of(x);
        int predicted = x.picksPossible();
        Check.same("it changes nothing", Answers.of(x), before);
        Check.same("weaving gives the same", x.weave(60), predicted);
        Check.same("then there is an obstacle", x.weaveObstacle() > 0 && x.picksPossible() == 0, true);
        return predicted;
    }

    private static int untilStuck(String setup) {
        CardLoom x = loom(setup);
        String before = Answers.of(x);
        int predicted = x.picksUntilStuck();
        Check.same("it changes nothing", Answers.of(x), before);
        String stuck = stuck(x);
        int woven = 0;
        while (stuck(x).equals(stuck) && x.weave(1) == 1) {
            woven++;
        }
        Check.same("weaving gives the same", stuck(x).equals(stuck) ? CardLoom.NONE : woven, predicted);
        return predicted;
    }

    private static String stuck(CardLoom x) {
        StringBuilder text = new StringBuilder();
        for (int harness = 0; harness < x.harnessCount(); harness++) {
            text.append(x.isStuck(harness));
        }
        return text.toString();
    }

    private static void predictions() {
        promise(47);
        Sentence.holds("Predicts the number of picks that can be woven", () -> {
            Check.same("until the yarn is too little", possible(CARDS + "deck 0;yarn b 11"), 3);
            Check.same("until the yarn of one colour is", possible(CARDS + "deck 0 1;yarn b 99;yarn c 5"), 3);
            Check.same("until the motor is too weak", possible(CARDS + "deck 0 0 2;yarn b 99;yarn d 99;motor 2"), 2);
            Check.same("from now on", possible(CARDS + "deck 0;yarn b 30;weave 4"), 6);
            Check.same("until sixty rows", possible(CARDS + "deck 0;yarn b 999;weave 59"), 1);
        });
        Sentence.holds("Returns the number of picks, 0 to 60.", () -> {
            Check.same("no picks", possible(CARDS + "yarn b 9"), 0);
            Check.same("no yarn", possible(CARDS + "deck 0"), 0);
            Check.same("a weak motor", possible(CARDS + "deck 1;yarn c 9;motor 1"), 0);
            Check.same("sixty rows", possible(CARDS + "deck 0;yarn b 999;weave 60"), 0);
            Check.same("one", possible(CARDS + "deck 0;yarn b 3"), 1);
            Check.same("59", possible(CARDS + "deck 0;yarn b 179"), 59);
            Check.same("60", possible(CARDS + "deck 0;yarn b 180"), 60);
            Check.same("no more", possible(CARDS + "deck 0;yarn b 999"), 60);
        });
        needsSetupAnd(CardLoom::picksPossible);

        String turns = "warp a 0;card b 0;card b;card b 1;deck 0 1;yarn b ";
        promise(48);
        Sentence.holds("Predicts the number of picks after which", () -> {
            Check.same("the first of two", untilStuck("loom 2 3;warp a 0;card b 0;card b 1;deck 0 1;yarn b 99"), 3);
            Check.same("the other one", untilStuck("loom 2 3;warp a 0;card b 0;card b 1;deck 0 1;yarn b 99;weave 3"),
                    1);
            Check.same("two at once", untilStuck("loom 2 1;warp a 0;card b 0 1;deck 0;yarn b 99"), 1);
            Check.same("one that is stuck does not count",
                    untilStuck("loom 2 1;warp a 0;card b 0;card b 0 1;deck 0 0 1;yarn b 99;weave 1"), 2);
            Check.same("oiled, it counts again", untilStuck("loom 2 2;" + turns + "99;weave 2;oil 0"), 2);
            Check.same("a harness without warps", untilStuck("loom 8 1;warp a 0;card b;card b 7;deck 0 0 1;yarn b 99"),
                    3);
        });
        Sentence.holds("Returns the number of picks, 1 to 60; NONE if", () -> {
            Check.same("the next pick", untilStuck("loom 2 1;" + turns + "1"), 1);
            Check.same("the next pick is not possible", untilStuck("loom 2 1;warp a 0;card b 0;deck 0"), CardLoom.NONE);
            Check.same("the most", untilStuck("loom 2 60;" + turns + "60"), 60);
            Check.same("an obstacle just before", untilStuck("loom 2 60;" + turns + "59"), CardLoom.NONE);
            Check.same("one more than the most", untilStuck("loom 2 61;" + turns + "99"), CardLoom.NONE);
            Check.same("the last row", untilStuck("loom 2 60;" + turns + "99;weave 59"), 1);
            Check.same("sixty rows", untilStuck("loom 2 61;" + turns + "99;weave 60"), CardLoom.NONE);
            Check.same("nothing moves", untilStuck("loom 2 1;warp a 0;card b;deck 0;yarn b 99"), CardLoom.NONE);
            Check.same("all are stuck", untilStuck("loom 2 1;warp a 0;card b 0 1;deck 0;yarn b 99;weave 1"),
                    CardLoom.NONE);
            Check.same("no picks", untilStuck(LEAST), CardLoom.NONE);
        });
        needsSetupAnd(CardLoom::picksUntilStuck);
    }

    private static void imbalance() {
        promise(49);
        sentence("Checks invariants.", () -> loom(Given.SAMPLE + ";weave 9").imbalance(), 0);
        Sentence.holds("Returns the difference, without its sign, between", () -> {
            String cards = CARDS + "deck 0 1 2;yarn b 99;yarn c 99;yarn d 99;";
            String[] items = {"weave 1", "weave 9;unweave 9", "weave 9;unweave 1", "swap 0 1;weave 3",
                    "punch 0 0;weave 3", "dye 0 c;weave 3",
                "invert 0;weave 3", "invert 0;weave 3;invert 0", "strain 1;weave 9", "strain 1;weave 3;mend 0",
                "motor 1;weave 1",
                "swap 0 1;swap 0 1;weave 9", "weave 3;dye 0 d;unweave 3;weave 3", "yarn a 999;weave 20"};
            for (String item : items) {
                Check.same("after " + item, loom(cards + item).imbalance(), 0);
            }
            Check.same("the least", loom(LEAST).imbalance(), 0);
            Check.same("one", loom(ONE).imbalance(), 0);
            Check.same("the most", loom(MOST).imbalance(), 0);
            Check.same("stuck, though oiled later",
                    loom(cards.replace("loom 2 200", "loom 2 1") + "weave 6;oil 0;oil 1").imbalance(), 0);
            Check.same("a wrong row without such a change",
                    loom(cards.replace("loom 2 200", "loom 2 1") + "weave 6").wrongCount(), 2);
            afterCalls();
        });
        needsSetupAnd(CardLoom::imbalance);
    }

    private static void afterCalls() {
        CardLoom x = loom(CARDS + "deck 0 1 2;yarn b 99;yarn c 99;yarn d 99");
        Call[] calls = {y -> y.weave(9), y -> y.saveState(0), y -> y.unweave(3), y -> y.bringYarn(5, 999),
                y -> y.undo(), y -> y.undo(),
            y -> y.punch(0, 0), y -> y.saveState(1), y -> y.weave(60), y -> y.undo(), y -> y.undo(), y -> y.weave(60),
                    y -> y.restoreState(1),
            y -> y.weave(60), y -> y.restoreState(0), y -> y.swapCards(1, 2), y -> y.setCardColour(0, 0),
                    y -> y.weave(60), y -> y.unweave(9)};
        for (int i = 0; i < calls.length; i++) {
            calls[i].on(x);
            Check.same("after call " + i, x.imbalance(), 0);
        }
    }
}
