/** The sentences of the terms' sections 1 to 5, and what stands before them. */
final class TermsBoundaryTest extends Boundary {
    /** All eight harnesses have been lifted and are stuck, all warps are broken; strain and motor are set. */
    private static final String WORN = "loom 8 1;warp f 7 6 5 4 3 2 1 0;card b 0 1 2 3 4 5 6 7;deck 0;yarn a 5;yarn b 99;"
            + "yarn c 5;yarn d 5;yarn e 5;yarn f 5;strain 1;weave 1;motor 1";

    public static void main(String[] args) {
        whatItIs();
        section1();
        section2();
        section3();
        section4();
        section5();
        Sentence.end("TermsBoundaryTest");
    }

    /** A loom from the setup, made by an object whose looms before it were all worn. */
    private static CardLoom afterWornLooms(String setup) {
        CardLoom x = loom(WORN);
        Given.parse(x, WORN);
        Given.parse(x, setup);
        return x;
    }

    private static void whatItIs() {
        Sentence.in("What it is");
        Sentence.namesNoBoundary("A simulator of a loom");
        Sentence.holds("An object is used for at most 512 calls", TermsBoundaryTest::fiveHundredAndTwelveCalls);
        Sentence.in("Terms");
        Sentence.namesNoBoundary("The class expands the deck");
        Sentence.in("Not promised");
        Sentence.namesNoBoundary("How the state is held");
        Sentence.namesNoBoundary("Use of one object from several threads");
        Sentence.namesNoBoundary("Nothing is promised beyond");
    }

    private static void fiveHundredAndTwelveCalls() {
        CardLoom x = new CardLoom();
        String setup = "loom 2 200;warp a 0;card b 0;card c;deck 0 1;yarn b 99;yarn c 99";
        Given.append(x, setup);
        x.parseSetup(setup.length());
        int calls = (setup.length() + 19) / 20 + 1;
        for (; calls < 510; calls += 2) {
            x.weave(60);
            x.unweave(60);
        }
        if (calls == 510) {
            Check.same("call 511", x.weave(59), 59);
        }
        Check.same("call 512", x.weave(1), 1);
    }

    // ---- 1. Harnesses, warps and colours

    private static void section1() {
        Sentence.in("Section 1");
        Sentence.holds("The loom has 2 to 8 harnesses, numbered from 0.", TermsBoundaryTest::harnesses);
        Sentence.holds("A harness is lifted or lowered (lowered at first)", TermsBoundaryTest::harnessesAtFirst);
        Sentence.holds("There are at most 24 warps, numbered from 0", TermsBoundaryTest::warps);
        Sentence.holds("The strain limit is 0 at first", TermsBoundaryTest::strainAndMotorAtFirst);
        Sentence.holds("The colours are the letters a to f", TermsBoundaryTest::colours);
        Sentence.holds("For each colour there is an amount of yarn, which is 0 at first.", () -> {
            for (int colour = 0; colour < 6; colour++) {
                String setup = "loom 2 9;warp a 0;card " + (char) ('a' + colour) + ";deck 0";
                Check.same("yarn " + colour, loom(setup).yarn(colour), 0);
                Check.same("too little for a pick of one warp", loom(setup).weaveObstacle(), 3);
                Check.same("yarn of a later setup " + colour, afterWornLooms(setup).yarn(colour), 0);
            }
        });
    }

    private static void harnesses() {
        error(2, "loom ", "0 9;warp a 0");
        error(2, "loom ", "1 9;warp a 0");
        error(2, "loom ", "9 9;warp a 0");
        error(2, "loom ", "10 9;warp a 0");
        for (int n = 2; n <= 8; n++) {
            String setup = "loom " + n + " 9;warp a 0 " + (n - 1);
            valid(setup, 0);
            Check.same("harnesses of " + setup, loom(setup).harnessCount(), n);
            Check.same("the last one's warp", loom(setup).warpHarness(1), n - 1);
            error(2, setup + " ", "" + n);
            takesIndices(setup, n, (x, i) -> x.isLifted(i));
        }
    }

    private static void harnessesAtFirst() {
        for (int n = 2; n <= 8; n++) {
            String setup = "loom " + n + " 1;warp a 0";
            for (int i = 0; i < n; i++) {
                CardLoom x = loom(setup);
                Check.same("harness " + i, x.isLifted(i) + " " + x.wear(i) + " " + x.isStuck(i), "false 0 false");
                CardLoom y = afterWornLooms(setup);
                Check.same("of a later setup " + i, y.isLifted(i) + " " + y.wear(i) + " " + y.isStuck(i),
                        "false 0 false");
            }
        }
        CardLoom worn = loom(WORN);
        for (int i = 0; i < 8; i++) {
            Check.same("the other way " + i, worn.isLifted(i) + " " + worn.wear(i) + " " + worn.isStuck(i),
                    "true 1 true");
        }
    }

    private static void warps() {
        for (int n = 1; n <= 24; n++) {
            String setup = "loom 2 9;warp c 1" + Given.repeated(" 0", n - 1);
            Check.same("warps of " + setup, loom(setup).warpCount(), n);
            takesIndices(setup, n, (x, i) -> x.isBroken(i));
            for (int i = 0; i < n; i++) {
                Check.same("not broken at first", afterWornLooms(setup).isBroken(i), false);
            }
        }
        String full = "loom 2 9;warp a" + Given.repeated(" 0", 12) + ";warp f" + Given.repeated(" 1", 12);
        CardLoom x = loom(full);
        Check.same("warp 0", x.warpHarness(0) + " " + x.warpColour(0), "0 0");
        Check.same("warps 11 and 12", x.warpColour(11) + " " + x.warpColour(12), "0 5");
        Check.same("warp 23", x.warpHarness(23) + " " + x.warpColour(23), "1 5");
        error(4, full + " ", "0");
        error(4, full + ";warp a ", "0");
        Check.same("broken in the end", loom(WORN).brokenCount(), 8);
    }

    private static void strainAndMotorAtFirst() {
        String setup = "loom 2 9;warp a" + Given.repeated(" 0", 24) + ";card b 0;deck 0;yarn b 999;yarn b 999";
        for (CardLoom x : new CardLoom[] {loom(setup), loom(setup + ";strain 0"), afterWornLooms(setup)}) {
            Check.same("24 lifted warps are no obstacle", x.weaveObstacle(), 0);
            Check.same("sixty rows that show all warps", x.weave(60), 60);
            Check.same("break none", x.brokenCount(), 0);
        }
        Check.same("the strength 24 is the first one", loom(setup + ";motor 24").weaveObstacle(), 0);
        Check.same("the strength 23 is less", loom(setup + ";motor 23").weaveObstacle(), 4);
        Check.same("the strain limit 60 is none of 0", loom(setup + ";strain 60;weave 60").brokenCount(), 24);
    }

    private static void colours() {
        for (int colour = 0; colour < 6; colour++) {
            char letter = (char) ('a' + colour);
            CardLoom x = loom("loom 2 9;warp " + letter + " 0;card " + letter + ";yarn " + letter + " 7");
            Check.same("of a warp, " + letter, x.warpColour(0), colour);
            Check.same("of a card, " + letter, x.cardColour(0), colour);
            Check.same("of yarn, " + letter, x.yarn(colour), 7);
            Check.same("written, " + letter, Given.card(x, 0), ".. " + letter);
        }
        for (String other : new String[] {"g", "z", "A", "F", "`", "aa", "0", "5"}) {
            error(1, "loom 2 9;warp ", other + " 0");
            error(1, LEAST + ";card ", other);
            error(1, LEAST + ";yarn ", other + " 7");
            error(1, LEAST + ";card a;dye 0 ", other);
        }
        takesRange(ONE, 0, 5, (x, colour) -> x.yarn(colour));
    }

    // ---- 2. Cards

    private static void section2() {
        Sentence.in("Section 2");
        Sentence.holds("There are at most 12 cards, numbered from 0.", () -> {
            for (int n = 0; n <= 12; n++) {
                String setup = LEAST + Given.repeated(";card c", n);
                Check.same("cards of " + setup, loom(setup).cardCount(), n);
                takesIndices(setup, n, (x, i) -> x.cardColour(i));
                Check.same("cards of a later setup", afterWornLooms(setup).cardCount(), n);
            }
            error(4, LEAST + Given.repeated(";card c", 12) + ";", "card c");
        });
        Sentence.holds("A card lifts a set of harnesses and has a weft colour.", () -> {
            CardLoom x = loom("loom 8 9;warp a 0;card a;card f 0 1 2 3 4 5 6 7;card b 7;card e 6 0");
            Check.same("none", Given.card(x, 0), "........ a");
            Check.same("all", Given.card(x, 1), "oooooooo f");
            Check.same("the last", Given.card(x, 2), ".......o b");
            Check.same("two, in any order", Given.card(x, 3), "o.....o. e");
            Check.same("the least loom", Given.card(loom(LEAST + ";card a 1"), 0), ".o a");
        });
        Sentence.holds("What a card lifted and its colour when it was added", TermsBoundaryTest::designs);
    }

    private static void designs() {
        String cards = "loom 2 9;warp a 0 1;card b 0;card c 1;deck 0;yarn b 9;yarn c 9;yarn d 9";
        for (String change : new String[] {"swap 0 1", "swap 1 0", "punch 0 0", "punch 0 1", "dye 0 d", "invert 0"}) {
            CardLoom x = loom(cards + ";" + change + ";weave 1");
            Check.same("wrong after " + change, x.wrongCount(), 1);
        }
        for (String change : new String[] {"", "swap 0 1;swap 0 1;", "punch 0 1;punch 0 1;", "dye 0 d;dye 0 b;",
            "invert 0;invert 0;", "dye 0 b;", "punch 1 0;", "dye 1 d;", "invert 1;"}) {
            CardLoom x = loom(cards + ";" + change + "weave 1");
            Check.same("right after " + change, x.wrongCount(), 0);
        }
        CardLoom x = loom(cards);
        x.swapCards(0, 1);
        x.punch(0, 0);
        x.setCardColour(0, 3);
        x.weave(1);
        Check.same("changed by calls", x.wrongCount(), 1);
        x.punch(0, 0);
        x.swapCards(0, 1);
        x.setCardColour(0, 1);
        x.weave(1);
        Check.same("changed back, the second row is right", x.isWrong(0) + " " + x.isWrong(1), "true false");
        CardLoom later = loom("loom 2 9;warp a 0;card b 0;invert 0;card c 0;deck 1;yarn c 9;weave 1");
        Check.same("a card that was added after changes of another", later.wrongCount(), 0);
    }

    // ---- 3. The deck

    private static String picks(String parts) {
        return Given.picks(loom("loom 2 9;warp a 0;card a;card b 0;card c 1;deck " + parts));
    }

    private static void section3() {
        Sentence.in("Section 3");
        Sentence.holds("The deck is a list of parts.", () -> {
            Check.same("no parts", Given.deck(loom(LEAST)) + " " + loom(LEAST).deckLength(), "- 0");
            Check.same("one part", picks("0"), "0");
            Check.same("neighbouring parts of each kind", picks("0 repeat 2(1)mirror(2)back(0)"), "0 1 1 2 0");
        });
        Sentence.holds("A part is a card, or a part with brackets, which contains at least one part.",
                TermsBoundaryTest::parts);
        Sentence.holds("Each part has picks.", () -> {
            for (String part : new String[] {"2", "repeat 1(2)", "mirror(2)", "back(2)", "repeat 1(mirror(back(2)))"}) {
                Check.same("the least picks of " + part, picks(part), "2");
            }
        });
        Sentence.holds("The picks of a card are this card.", () -> {
            String setup = LEAST + Given.repeated(";card a", 12) + ";deck 0 11";
            Check.same("the first and the last card", Given.picks(loom(setup)), "0 11");
        });
        Sentence.holds("The picks of a list are the picks of its parts", () -> {
            Check.same("in their order", picks("2 1 0 1 2"), "2 1 0 1 2");
            Check.same("a list of one", picks("back(1)"), "1");
            Check.same("over several items", picks("0;deck 1 2;deck 0"), "0 1 2 0");
        });
        Sentence.holds("The picks of a repeat are", () -> {
            for (int count = 1; count <= 20; count++) {
                Check.same("count " + count, picks("repeat " + count + "(0 1)"), Given.repeated(" 0 1", count).trim());
            }
            Check.same("in a repeat", picks("repeat 2(0 repeat 3(1))"), "0 1 1 1 0 1 1 1");
        });
        Sentence.holds("The picks of a mirror are", () -> {
            Check.same("of one", picks("mirror(0)"), "0");
            Check.same("of two", picks("mirror(0 1)"), "0 1 0");
            Check.same("of equal ones", picks("mirror(0 0)"), "0 0 0");
            Check.same("of three", picks("mirror(0 1 2)"), "0 1 2 1 0");
            Check.same("in a mirror", picks("mirror(mirror(0 1)2)"), "0 1 0 2 0 1 0");
            String fifty = Given.repeated(" 0 1 2 1 0", 9) + " 0 1 2 1 1";
            Check.same("of fifty", picks("mirror(" + fifty + ")"),
                    (fifty + " 1 2 1 0" + Given.repeated(" 0 1 2 1 0", 9)).trim());
        });
        Sentence.holds("The picks of a reversed part are", () -> {
            Check.same("of one", picks("back(0)"), "0");
            Check.same("of two", picks("back(0 1)"), "1 0");
            Check.same("of three", picks("back(0 1 2)"), "2 1 0");
            Check.same("of four", picks("back(0 1 2 2)"), "2 2 1 0");
            Check.same("twice", picks("back(back(0 1 2))"), "0 1 2");
            Check.same("of a hundred", picks("back(repeat 20(0 0 0 1 2))"), Given.repeated(" 2 1 0 0 0", 20).trim());
            Check.same("between others", picks("0 1 back(0 1 2)0 1"), "0 1 2 1 0 0 1");
        });
        Sentence.holds("The deck has at most 100 picks.", TermsBoundaryTest::hundredPicks);
    }

    private static void parts() {
        String cards = LEAST + ";card a;deck ";
        for (String opening : new String[] {"repeat 2(", "mirror(", "back("}) {
            error(1, cards + opening, ")");
            error(1, cards + opening, ");deck 0");
            error(1, cards + "0 " + opening, ")");
            error(1, cards + "back(0 " + opening, "))");
            error(1, cards + "back(" + opening, "))");
            valid(cards + opening + "0)", opening.startsWith("r") ? 2 : 1);
            valid(cards + opening + "back(0))", opening.startsWith("r") ? 2 : 1);
        }
        error(1, LEAST + ";card a;deck", "");
        error(1, LEAST + ";card a;deck", ";deck 0");
    }

    private static void hundredPicks() {
        String cards = LEAST + ";card a;deck ";
        String ninetyNine = cards + "repeat 11(0 0 0 0 0 0 0 0 0)";
        valid(ninetyNine, 99);
        valid(ninetyNine + " 0", 100);
        valid(ninetyNine + ";deck 0", 100);
        valid(ninetyNine + " repeat 1(0)", 100);
        valid(ninetyNine + " mirror(0)", 100);
        valid(ninetyNine + " back(0)", 100);
        error(4, ninetyNine + " 0 ", "0");
        error(4, ninetyNine + " 0;deck ", "0");
        error(4, ninetyNine + " repeat 2(0", ")");
        error(4, ninetyNine + " mirror(0 0", ")");
        error(4, ninetyNine + " back(0 0", ")");
        valid(cards + "0" + Given.repeated(" 0", 99), 100);
        error(4, cards + "0" + Given.repeated(" 0", 99) + " ", "0");
    }

    // ---- 4. Weaving

    private static void section4() {
        Sentence.in("Section 4");
        Sentence.holds("The next pick of the deck is the one whose index is", TermsBoundaryTest::nextPick);
        Sentence.holds("The obstacles to weaving are tested in this order", TermsBoundaryTest::obstacles);
        Sentence.holds("To weave the next pick means: the yarn", TermsBoundaryTest::yarnDecreases);
        Sentence.holds("Then, for each harness that is not stuck", TermsBoundaryTest::harnessesMove);
        Sentence.holds("Then a row is added to the cloth", TermsBoundaryTest::cellsOfRows);
        Sentence.holds("At last, if the strain limit is not 0", TermsBoundaryTest::warpsBreak);
        Sentence.holds("Later changes do not change rows.", TermsBoundaryTest::rowsStay);
        Sentence.holds("To remove the last rows means", TermsBoundaryTest::yarnIncreases);
        Sentence.holds("The harnesses and the broken warps stay as they are.", () -> {
            CardLoom x = loom("loom 2 1;warp a 0 1;card b 0;deck 0;yarn b 99;strain 3;weave 3");
            x.unweave(3);
            Check.same("the harness", x.isLifted(0) + " " + x.wear(0) + " " + x.isStuck(0), "true 1 true");
            Check.same("the warp", x.isBroken(0) + " " + x.brokenCount(), "true 1");
            x.weave(1);
            Check.same("the row after them", Given.row(x, 0), "bb");
            CardLoom up = loom("loom 2 9;warp a 0 1;card b 0;card b;deck 0 1;yarn b 99;weave 1;unweave 1");
            up.weave(1);
            Check.same("lifted already, it does not move again", up.isLifted(0) + " " + up.wear(0), "true 1");
        });
    }

    private static void nextPick() {
        CardLoom x = loom("loom 2 99;warp a 0;card b;card c;card d;deck 0 1 2;yarn b 99;yarn c 99;yarn d 99");
        for (int row = 0; row < 60; row++) {
            Check.same("of the pick of row " + row, x.nextCard(), row % 3);
            x.weave(1);
            Check.same("row " + row, Given.row(x, row), "" + (char) ('b' + row % 3));
        }
        Check.same("with sixty rows", x.nextCard(), 0);
        x.unweave(1);
        Check.same("with fifty-nine rows", x.nextCard(), 2);
        CardLoom one = loom(LEAST + ";card b;deck 0;yarn b 99;weave 59");
        Check.same("of one pick", one.nextCard(), 0);
        CardLoom sixty = loom(LEAST + ";card b;card c;deck repeat 20(0 0)repeat 19(1)0;yarn b 99;yarn c 99;weave 60");
        Check.same("of sixty picks and rows", sixty.deckLength() + " " + sixty.nextCard() + " " + Given.row(sixty, 59),
                "60 0 b");
        CardLoom hundred = loom(LEAST + ";card b;card c;deck repeat 20(0 0 0)1 repeat 13(0 0 0);yarn b 99");
        hundred.weave(60);
        Check.same("of a hundred picks", hundred.deckLength() + " " + hundred.nextCard(), "100 1");
    }

    private static int obstacle(String items) {
        return loom("loom 2 99;warp a 0 1;card b 0 1;" + items).weaveObstacle();
    }

    private static void obstacles() {
        Check.same("1: no picks, no yarn, a weak motor", obstacle("motor 1"), 1);
        Check.same("1: no picks, with yarn", obstacle("yarn b 9"), 1);
        Check.same("1: no cards", loom(LEAST).weaveObstacle(), 1);
        Check.same("none with one pick", obstacle("deck 0;yarn b 2"), 0);
        Check.same("none with 59 rows", obstacle("deck 0;yarn b 120;weave 59"), 0);
        Check.same("2: 60 rows, with yarn", obstacle("deck 0;yarn b 122;weave 60"), 2);
        Check.same("2: 60 rows, no yarn", obstacle("deck 0;yarn b 120;weave 60"), 2);
        Check.same("2: 60 rows, no yarn, a weak motor", obstacle("deck 0;yarn b 120;weave 60;motor 1"), 2);
        Check.same("2: 60 rows, a weak motor", obstacle("deck 0;yarn b 122;weave 60;motor 1"), 2);
        Check.same("3: 59 rows, no yarn", obstacle("deck 0;yarn b 118;weave 59"), 3);
        Check.same("3: no yarn", obstacle("deck 0"), 3);
        Check.same("3: one too little", obstacle("deck 0;yarn b 1"), 3);
        Check.same("3: one too little, a weak motor", obstacle("deck 0;yarn b 1;motor 1"), 3);
        Check.same("3: other colours do not count", obstacle("deck 0;yarn a 9;yarn c 9"), 3);
        Check.same("3: of the colour now", obstacle("deck 0;yarn b 9;dye 0 c"), 3);
        Check.same("3: of the next pick's card", obstacle("card c;deck 0 1;yarn b 9;weave 1"), 3);
        Check.same("4: one warp too many", obstacle("deck 0;yarn b 2;motor 1"), 4);
        Check.same("none: as strong as needed", obstacle("deck 0;yarn b 2;motor 2"), 0);
        Check.same("4: of what the card lifts now", obstacle("card c;deck 1;yarn c 9;motor 1;invert 1"), 4);
        Check.same("none: of what the card lifts now", obstacle("deck 0;yarn b 9;motor 1;punch 0 0"), 0);
        Check.same("4: of the next pick's card", obstacle("card b;deck 1 0;yarn b 9;motor 1;weave 1"), 4);
        Check.same("4: of broken warps, too", obstacle("deck 0;yarn b 9;strain 1;weave 1;motor 1"), 4);
        String stuck = "loom 2 1;warp a 0 1;card b 0 1;deck 0;yarn b 9;weave 1;motor 1";
        Check.same("4: stuck or not", loom(stuck).isStuck(0) + " " + loom(stuck).weaveObstacle(), "true 4");
        String all = "loom 8 9;warp a" + Given.repeated(" 7", 24) + ";card b 7;deck 0;yarn b ";
        Check.same("3: of 24 warps", loom(all + 23).weaveObstacle(), 3);
        Check.same("none of 24 warps", loom(all + 24).weaveObstacle(), 0);
        Check.same("4: of 24 warps", loom(all + "24;motor 23").weaveObstacle(), 4);
    }

    private static void yarnDecreases() {
        for (int n = 1; n <= 24; n++) {
            CardLoom x = loom("loom 2 9;warp a" + Given.repeated(" 0", n) + ";card b 0;deck 0;yarn b " + 2 * n
                    + ";yarn a 9");
            x.weave(1);
            Check.same("for " + n + " warps", x.yarn(1), n);
            x.weave(1);
            Check.same("to nothing", x.yarn(1), 0);
            Check.same("no third pick", x.weave(1), 0);
            Check.same("no less than nothing", x.yarn(1), 0);
            Check.same("not of the warps' colour", x.yarn(0), 9);
        }
        CardLoom dyed = loom("loom 2 9;warp a 0;card b 0;deck 0;yarn b 9;yarn c 9;dye 0 c;weave 1");
        Check.same("of the colour now", dyed.yarn(1) + " " + dyed.yarn(2), "9 8");
    }

    private static String harness(CardLoom x, int harness) {
        return (x.isLifted(harness) ? "up " : "down ") + x.wear(harness) + (x.isStuck(harness) ? " stuck" : "");
    }

    private static void harnessesMove() {
        String cards = "warp a 0 1;card b 0;card b 0 1;card b;deck 0 1 2 2;yarn b 999";
        CardLoom x = loom("loom 2 3;" + cards);
        String[] due = {"up 1,down 0", "up 1,up 1", "down 2,down 2", "down 2,down 2", "up 3 stuck,down 2",
                "up 3 stuck,up 3 stuck",
            "up 3 stuck,up 3 stuck"};
        for (int pick = 0; pick < due.length; pick++) {
            x.weave(1);
            Check.same("after pick " + pick, harness(x, 0) + "," + harness(x, 1), due[pick]);
        }
        CardLoom one = loom("loom 2 1;" + cards);
        one.weave(1);
        Check.same("a wear limit of 1", harness(one, 0) + "," + harness(one, 1), "up 1 stuck,down 0");
        one.weave(3);
        Check.same("two", harness(one, 0) + "," + harness(one, 1), "up 1 stuck,up 1 stuck");
        CardLoom down = loom("loom 2 2;" + cards);
        down.weave(5);
        Check.same("stuck when it was lowered", harness(down, 0), "down 2 stuck");
        CardLoom last = loom("loom 8 1;warp a 7;card b 7;deck 0;yarn b 9;weave 1");
        Check.same("the last harness alone", harness(last, 7) + "," + harness(last, 6) + "," + harness(last, 0),
                "up 1 stuck,down 0,down 0");

        CardLoom most = loom("loom 2 200;warp a 0;card b 0;card b;deck 0 1;yarn b 60");
        for (int n = 0; n < 3; n++) {
            most.weave(60);
            most.unweave(60);
        }
        most.weave(19);
        Check.same("one less than the greatest wear limit", harness(most, 0), "up 199");
        most.weave(1);
        Check.same("the greatest wear limit", harness(most, 0), "down 200 stuck");
        most.weave(1);
        Check.same("no more than the limit", harness(most, 0), "down 200 stuck");
    }

    private static void cellsOfRows() {
        CardLoom x = loom("loom 3 9;warp a 0 1 2;warp f 0;card b 0 2;card c;card d 0 1 2;deck 0 1 2;yarn b 9;yarn c 9;yarn d 9;weave 3");
        Check.same("some", Given.row(x, 0), "AbAF");
        Check.same("none", Given.row(x, 1), "cccc");
        Check.same("all", Given.row(x, 2), "AAAF");
        CardLoom broken = loom("loom 2 9;warp a 0 0 1;card b 0;deck 0;yarn b 99;strain 1;weave 1;mend 1;weave 1");
        Check.same("lifted, but broken", Given.row(broken, 0) + " " + Given.row(broken, 1), "AAb bAb");
        CardLoom stuck = loom("loom 2 1;warp a 0 1;card b 0;card b 1;deck 0 1;yarn b 99;weave 2");
        Check.same("stuck up, though the card does not lift it", Given.row(stuck, 1), "AA");
        CardLoom low = loom("loom 2 2;warp a 0 1;card b 0;card b 1;deck 0 1;yarn b 99;weave 3");
        Check.same("stuck down, though the card lifts it", Given.row(low, 0) + Given.row(low, 1) + Given.row(low, 2),
                "AbbAbb");
        CardLoom same = loom("loom 2 9;warp b 0 1;card b 0;deck 0;yarn b 9;weave 1");
        Check.same("of the same colour", Given.row(same, 0), "Bb");
        CardLoom now = loom("loom 2 9;warp a 0 1;card b 0;deck 0;yarn e 9;invert 0;dye 0 e;weave 1");
        Check.same("of what the card lifts now, and of its colour now", Given.row(now, 0), "eA");
    }

    private static String broken(CardLoom x) {
        StringBuilder text = new StringBuilder();
        for (int warp = 0; warp < x.warpCount(); warp++) {
            text.append(x.isBroken(warp) ? 'x' : '.');
        }
        return text.toString();
    }

    private static void warpsBreak() {
        String still = "loom 2 9;warp a 0 1 0;card b 0;deck 0;yarn b 999;";
        for (int limit = 1; limit <= 60; limit++) {
            CardLoom x = loom(still + "strain " + limit);
            Check.same("limit " + limit, x.weave(limit), limit);
            Check.same("as many rows as the limit " + limit, broken(x), "x.x");
            x.undo();
            if (limit > 1) {
                x.weave(limit - 1);
            }
            Check.same("one row less than the limit " + limit, broken(x), "...");
        }
        Check.same("the limit 0", broken(loom(still + "strain 1;strain 0;weave 60")), "...");
        Check.same("the last limit counts", broken(loom(still + "strain 1;strain 3;weave 2")), "...");

        String turns = "loom 2 99;warp a 0 1;card b 0;card b 1;card b 0 1;deck ";
        Check.same("a row between", broken(loom(turns + "0 1 0;yarn b 99;strain 2;weave 3")), "..");
        Check.same("neighbouring rows", broken(loom(turns + "1 0 0;yarn b 99;strain 2;weave 3")), "x.");
        Check.same("the last rows alone", broken(loom(turns + "0 2 1;yarn b 99;strain 2;weave 1;weave 2")), "xx");
        Check.same("earlier rows do not count", broken(loom(turns + "0 0 1;yarn b 99;weave 2;strain 2;weave 1")), "..");
        Check.same("rows before the limit was set count",
                broken(loom(turns + "0 0 0;yarn b 99;weave 1;strain 2;weave 1")), "x.");
        CardLoom row = loom(turns + "0;yarn b 99;strain 2;weave 3");
        Check.same("it breaks behind the row", Given.row(row, 1) + " " + Given.row(row, 2), "Ab bb");

        CardLoom x = loom(turns + "0;yarn b 99;strain 3;weave 2;unweave 1;weave 1");
        Check.same("removed rows do not count", broken(x), "..");
        x.weave(1);
        Check.same("the rows that are left do", broken(x), "x.");
        x.mend(0);
        Check.same("mended", broken(x), "..");
        x.weave(1);
        Check.same("the last rows still show it", broken(x), "x.");
        x.weave(1);
        x.mend(0);
        x.weave(2);
        Check.same("a row that shows the weft is between", broken(x), "..");
        x.weave(1);
        Check.same("three rows again", broken(x), "x.");
        CardLoom stuck = loom("loom 2 1;warp a 0;card b 0;card b;deck 0 1 1;yarn b 99;strain 3;weave 3");
        Check.same("of a stuck harness, too", broken(stuck), "x");
        CardLoom last = loom("loom 2 9;warp a" + Given.repeated(" 0", 23)
                + " 1;card b 1;deck 0;yarn b 99;strain 1;weave 1");
        Check.same("the last of 24 warps", broken(last), Given.repeated(".", 23) + "x");
    }

    private static void rowsStay() {
        CardLoom x = loom("loom 2 2;warp a 0 1;card b 0;card c 1;deck 0 1;yarn b 99;yarn c 99;strain 4;weave 2");
        String rows = Given.row(x, 0) + " " + Given.row(x, 1);
        Check.same("at first", rows, "Ab cA");
        Call[] changes = {y -> y.weave(9), y -> y.oil(0), y -> y.swapCards(0, 1), y -> y.punch(0, 0),
                y -> y.punch(1, 1),
            y -> y.setCardColour(0, 5), y -> y.setCardColour(1, 5), y -> y.bringYarn(5, 9), y -> y.weave(9),
                    y -> y.oil(1),
            y -> y.unweave(y.rowCount() - 2), y -> y.weave(9), y -> y.undo(), y -> y.saveState(0)};
        for (int i = 0; i < changes.length; i++) {
            changes[i].on(x);
            Check.same("after change " + i, Given.row(x, 0) + " " + Given.row(x, 1), rows);
        }
        CardLoom broken = loom("loom 2 9;warp a 0 1;card b 0;deck 0;yarn b 99;strain 1;weave 2");
        broken.mend(0);
        Check.same("after a warp broke, and was mended", Given.row(broken, 0) + " " + Given.row(broken, 1), "Ab bb");
        CardLoom parsed = loom("loom 2 9;warp a 0 1;card b 0;deck 0;yarn b 99;weave 1;dye 0 c;invert 0;card d;strain 1;motor 1");
        Check.same("after items", Given.row(parsed, 0), "Ab");
    }

    private static void yarnIncreases() {
        for (int n = 1; n <= 24; n++) {
            CardLoom x = loom("loom 2 9;warp a" + Given.repeated(" 0", n)
                    + ";card b 0;card c;deck 0 1;yarn b 99;yarn c 99;weave 3");
            x.unweave(1);
            Check.same("the last row of " + n + " warps", x.yarn(1) + " " + x.yarn(2), 99 - n + " " + (99 - n));
            x.unweave(2);
            Check.same("all rows of " + n + " warps", x.yarn(1) + " " + x.yarn(2), "99 99");
        }
        CardLoom dyed = loom("loom 2 9;warp a 0 0;card b 0;deck 0;yarn b 9;weave 2;dye 0 c;unweave 1");
        Check.same("the colour of the row, not the card's now", dyed.yarn(1) + " " + dyed.yarn(2), "7 0");
        CardLoom hidden = loom("loom 2 9;warp a 0 0;card b 0;deck 0;yarn b 9;weave 1;unweave 1");
        Check.same("of a row that shows no weft, too", hidden.yarn(1) + " " + hidden.yarn(0), "9 0");
        CardLoom over = loom("loom 2 9;warp a 0 0;card b 0;deck 0;yarn b 999;weave 1;yarn b 999;unweave 1");
        Check.same("more than one can bring at once", over.yarn(1), 1998);
    }

    // ---- 5. Checks

    private static void section5() {
        Sentence.in("Section 5");
        Sentence.holds("The expected row at an index is", TermsBoundaryTest::expectedRows);
        Sentence.holds("A row of the cloth is wrong if", TermsBoundaryTest::wrongRows);
        Sentence.holds("If at least one row is wrong, the suspected swap is", TermsBoundaryTest::suspectedSwap);
        Sentence.holds("There may be none.", () -> {
            String cards = "loom 2 9;warp a 0 1;card b 0;card b 1;deck 0;yarn b 99;";
            Check.same("no rows", swap(loom(cards + "swap 0 1")), "-1 -1");
            Check.same("no wrong rows", swap(loom(cards + "weave 9")), "-1 -1");
            Check.same("wrong rows that no pair explains", swap(loom(cards + "punch 0 1;weave 1")), "-1 -1");
            Check.same("one card", swap(loom("loom 2 9;warp a 0;card b 0;deck 0;yarn b 9;invert 0;weave 1")), "-1 -1");
            for (int n = 1; n <= 12; n++) {
                String none = "loom 2 9;warp b 0" + Given.repeated(";card c 0", n) + ";yarn a 9;deck " + (n - 1);
                CardLoom x = loom(none + ";invert " + (n - 1) + ";dye " + (n - 1) + " a;weave 1");
                Check.same("no card of " + n + " explains it, and one that is not there is none of them", swap(x),
                        "-1 -1");
            }
            Check.same("no cards", swap(loom(LEAST)), "-1 -1");
        });
    }

    private static String wrong(CardLoom x) {
        StringBuilder text = new StringBuilder();
        for (int row = 0; row < x.rowCount(); row++) {
            text.append(x.isWrong(row) ? 'x' : '.');
        }
        return text.toString();
    }

    private static void expectedRows() {
        String cards = "loom 2 99;warp a 0 1;card b 0;card c 1;card b;deck 0 1 2;yarn b 999;yarn c 999;";
        Check.same("over the deck's end", wrong(loom(cards + "weave 60")), Given.repeated(".", 60));
        Check.same("at the last pick", wrong(loom(cards + "weave 2;punch 2 0;weave 1;punch 2 0;weave 3")), "..x...");
        Check.same("at the first pick again", wrong(loom(cards + "weave 3;punch 0 1;weave 1;punch 0 1;weave 2")),
                "...x..");
        Check.same("at the last row", wrong(loom(cards + "weave 59;invert 2;weave 1")), Given.repeated(".", 59) + "x");
        Check.same("never stuck", wrong(loom(cards.replace("loom 2 99", "loom 2 1") + "weave 4")), ".xxx");
        Check.same("never broken", wrong(loom(cards + "strain 1;weave 6")), "...xx.");
        CardLoom more = loom(cards + "weave 3;unweave 3;deck 1");
        more.weave(5);
        Check.same("of the deck as it is", wrong(more), ".....");
    }

    private static void wrongRows() {
        String cards = "loom 2 9;warp a 0;warp b 1;card c 0;deck 0;yarn a 9;yarn b 9;yarn c 9;yarn d 9;";
        Check.same("nothing differs", wrong(loom(cards + "weave 1")), ".");
        Check.same("the colour of one cell", wrong(loom(cards + "dye 0 d;weave 1")), "x");
        Check.same("what one cell shows", wrong(loom(cards + "punch 0 1;weave 1")), "x");
        Check.same("what the other shows", wrong(loom(cards + "punch 0 0;weave 1")), "x");
        Check.same("both", wrong(loom(cards + "invert 0;weave 1")), "x");
        String hidden = cards.replace("card c 0", "card c 0 1");
        Check.same("a weft that no cell shows", wrong(loom(hidden + "dye 0 d;weave 1")), ".");
        Check.same("a colour for another warp alone", wrong(loom(hidden + "dye 0 b;punch 0 1;weave 1")), "x");
        Check.same("equal colours, but not what is shown",
                wrong(loom(cards.replace("card c", "card a") + "punch 0 0;weave 1")), "x");
        Check.same("a harness without warps",
                wrong(loom("loom 3 9;warp a 0;card b 0;deck 0;yarn b 9;punch 0 2;weave 1")), ".");
        String last = "loom 2 9;warp a" + Given.repeated(" 0", 23) + " 1;card b 0;deck 0;yarn b 24;";
        Check.same("the last of 24 cells", wrong(loom(last + "punch 0 1;weave 1")), "x");
        Check.same("none of 24 cells", wrong(loom(last + "weave 1")), ".");
        Check.same("the only cell", wrong(loom(LEAST + ";card b;deck 0;yarn b 1;yarn c 1;dye 0 c;weave 1")), "x");
    }

    private static String swap(CardLoom x) {
        return x.swapFirst() + " " + x.swapSecond();
    }

    private static void suspectedSwap() {
        String many = "loom 4 99;warp a 0 1 2 3";
        StringBuilder cards = new StringBuilder(many);
        for (int card = 0; card < 12; card++) {
            cards.append(";card ").append((char) ('b' + card % 4)).append(' ').append(card % 4).append(card >= 4
                    && card < 8 ? " 0" : "");
        }
        // Cards 0 to 3 are those of 8 to 11; card 4 would list 0 twice.
        String setup = cards.toString().replace(" 0 0", " 0 1") + ";yarn b 999;yarn c 999;yarn d 999;yarn e 999;deck ";
        Check.same("the first pair", swap(loom(setup + "0 1;swap 0 1;weave 2")), "0 1");
        Check.same("the last pair", swap(loom(setup + "10 11;swap 10 11;weave 2")), "10 11");
        Check.same("given the other way round", swap(loom(setup + "4 7;swap 7 4;weave 2")), "4 7");
        Check.same("the least second card of two alike", swap(loom(setup + "0;swap 0 11;weave 1")), "0 3");
        Check.same("the least first card of two alike", swap(loom(setup + "10;swap 10 3;weave 1")), "3 10");
        Check.same("a lesser first card, though it has a greater second one", swap(loom(setup + "8;swap 8 3;weave 1")),
                "3 8");
        Check.same("each row, right ones too", swap(loom(setup + "0 1;weave 2;swap 0 1;weave 1")), "-1 -1");
        Check.same("one row of sixty fits no more", swap(loom(setup + "0 1;swap 0 1;weave 59;swap 0 1;weave 1")),
                "-1 -1");
        Check.same("all of sixty rows", swap(loom(setup + "0 1;swap 0 1;weave 60")), "0 1");
        Check.same("rows of a third card stay", swap(loom(setup + "0 2 1;swap 0 1;weave 3")), "0 1");
        Check.same("no row is wrong, though a pair would fit", swap(loom(setup + "0 8;weave 2")), "-1 -1");
        Check.same("the designs, not the cards now",
                swap(loom(setup + "0 1;swap 0 1;weave 2;dye 0 a;dye 1 a;invert 1")), "0 1");
        String alike = "loom 2 9;warp a 0;card a 0;card a;deck 0;yarn a 9;swap 0 1;weave 1";
        Check.same("equal in showing the weft, too", swap(loom(alike)), "0 1");
        String stuck = "loom 2 1;warp a 0 1;card b 0;card c 0 1;card c 1;deck 0 2;yarn b 99;yarn c 99;weave 2";
        Check.same("rows of a stuck harness", Given.row(loom(stuck), 1) + " " + swap(loom(stuck)), "AA 1 2");
    }
}
