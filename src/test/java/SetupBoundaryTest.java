/** The sentences of the terms' section 6: the tokens, the grammar and the errors of a setup. */
final class SetupBoundaryTest extends Boundary {
    private static final String TWO = "loom 2 9;warp a 0 1;";
    /** Two warps, two cards, and yarn for them. */
    private static final String CARDS = TWO + "card a 0;card b 1;yarn a 999;yarn b 999;";
    /** The same, with two picks and two rows. */
    private static final String ROWS = CARDS + "deck 0 1;weave 2;";
    /** The same, but warp 0 is broken. */
    private static final String BROKEN = CARDS + "deck 0;strain 1;weave 1;";

    public static void main(String[] args) {
        Sentence.in("Section 6");
        tokensAndGrammar();
        effects();
        errors();
        Sentence.end("SetupBoundaryTest");
    }

    private static void tokensAndGrammar() {
        Sentence.holds("The tokens of a setup are", SetupBoundaryTest::tokens);
        Sentence.holds("Spaces (byte 32) may stand between tokens.", SetupBoundaryTest::spaces);
        Sentence.holds("A word ends at the first byte that", SetupBoundaryTest::endsOfTokens);
        Sentence.holds("Leading zeros are allowed.", SetupBoundaryTest::leadingZeros);
        Sentence.namesNoBoundary("The grammar is:");
        Sentence.holds("setup = ", SetupBoundaryTest::setups);
        Sentence.holds("item = ", SetupBoundaryTest::items);
        Sentence.holds("part = ", SetupBoundaryTest::parts);
        Sentence.holds("A colour is a word of one letter a to f.", SetupBoundaryTest::colours);
        Sentence.holds("Harnesses, warps and cards are told by their indices", SetupBoundaryTest::indices);
        Sentence.holds("The ranges are", SetupBoundaryTest::ranges);
    }

    private static void tokens() {
        valid(ROWS + "dye 0 f", 2);
        valid(ROWS + "unweave 1", 2);
        error(1, ROWS, "unweavee 1");
        error(1, ROWS, "abcdefghijklmnopqrstuvwxyz");
        error(1, ROWS, "w 1");
        valid(CARDS + "yarn a 1", 0);
        valid(CARDS + "yarn a 999", 0);
        error(1, CARDS + "yarn a ", "1000");
        error(1, CARDS + "yarn a ", "99999999999999999999");
        valid(CARDS + "deck back(0);deck 1", 2);
        for (String other : new String[] {"[0]", "{0}", "<0>", "\"0\"", "-0", "+0", ",", ".", "_", "@", "`", "{", "/",
                ":"}) {
            error(1, CARDS + "deck back ", other);
            error(1, CARDS + "deck 0 ", other);
        }
        for (int sign = 0; sign < 256; sign++) {
            boolean goesOn = sign == ';' || sign == ' ' || sign >= '0' && sign <= '9';
            if (!goesOn) {
                error(1, "loom 2 9", (char) sign + "warp a 0");
            }
        }
    }

    private static void spaces() {
        valid("loom2 9;warp a0;card a;deck 0 0mirror(0)back(0)repeat 2(0)", 6);
        valid("  loom   2   9   ;   warp   a   0   ;   card   a   ;   deck   0   mirror   (   0   )   0   ", 3);
        error(1, "   ", "room 2 9");
        error(1, "", "lo om 2 9");
        error(2, "loom 2 9;warp a 0 ", "2");
        error(1, "loom 2 9;warp a 0 1 1 1 ", "a");
        for (char other : new char[] {'\t', '\n', '\r', '\0', '\f', 31, 33, 127, 128, 160, 255}) {
            error(1, "loom", other + "2 9;warp a 0");
            error(1, "loom 2", other + "9;warp a 0");
            error(1, "loom 2 9;warp a 0", "" + other);
            error(1, "", other + "loom 2 9;warp a 0");
        }
    }

    private static void endsOfTokens() {
        valid("loom2 9;warp a0 1;card b1;card c0;deck0mirror(1)0repeat2(1)0", 6);
        error(1, "loom 2 9;warp", "A 0");
        error(1, "loom 2 9;warp a", "B");
        error(1, "loom", "`2 9");
        error(1, "loom", "{2 9");
        error(1, "loom 2 9", "a;warp a 0");
        error(1, "loom 2 9", "/;warp a 0");
        error(1, "loom 2 9", ":;warp a 0");
        error(1, "loom 2", ".9;warp a 0");
        for (char letter = 'a'; letter <= 'z'; letter++) {
            error(1, "", "loom" + letter + "2 9;warp a 0");
            error(1, BROKEN, "mend" + letter + "0");
            error(1, BROKEN, letter + "mend 0");
            error(1, CARDS + "deck 0 ", "back" + letter + "(0)");
        }
        for (char digit = '0'; digit <= '9'; digit++) {
            valid(TWO + "yarn a1" + digit, 0);
            valid(TWO + "yarn a" + digit + "1", 0);
        }
        error(1, TWO + "card a;deck 0 ", "mirrorback(0)");
        error(1, "loom 2 9;warp a 01", "b");
        error(2, "loom 2 9;warp a ", "02b");
        Check.same("a word and a number", loom("loom 8 9;warp a7").warpHarness(0), 7);
    }

    private static void leadingZeros() {
        valid("loom 002 009;warp a 000 001;card a 01;deck 000 repeat 020(00);yarn a 099;weave 001;unweave 01;oil 00",
                21);
        valid("loom 02 09;warp a 00;strain 00;strain 060;motor 01;motor 024;card a;card b;swap 00 001;dye 01 a;invert 001", 0);
        Check.same("the same number", loom("loom 008 200;warp a 007").warpHarness(0), 7);
        error(1, "loom ", "0002 9;warp a 0");
        error(1, "loom 2 9;warp a ", "0000");
        error(2, "loom ", "001 9;warp a 0");
        error(2, "loom 2 ", "000;warp a 0");
    }

    private static void setups() {
        error(1, "", "");
        error(1, "   ", "");
        error(1, "loom", "");
        error(1, "loom 2", "");
        error(4, "loom 2 9", "");
        valid("loom 2 9;warp a 0", 0);
        valid("loom 2 9;warp a 0" + Given.repeated(";strain 0", 53), 0);
        error(1, "", "loo 2 9;warp a 0");
        error(1, "", "looms 2 9;warp a 0");
        error(1, "", "warp a 0");
        error(1, "", ";loom 2 9;warp a 0");
        error(1, "", "2 9;warp a 0");
        error(1, "loom ", ";warp a 0");
        error(1, "loom 2 ", ";warp a 0");
        error(1, "loom ", "a 9;warp a 0");
        error(1, "loom 2 ", "a;warp a 0");
        error(1, "loom 2 9 ", "9;warp a 0");
        error(1, "loom 2 9 ", "warp a 0");
        error(1, "loom 2 9 ", "(;warp a 0");
        error(1, "loom 2 9;", "");
        error(1, "loom 2 9;", ";warp a 0");
        error(1, "loom 2 9;warp a 0;", "");
        error(1, "loom 2 9;warp a 0;  ", "");
        error(1, "loom 2 9;warp a 0;", "loom 2 9");
        error(1, "loom 2 9;warp a 0;", "0");
        error(1, "loom 2 9;warp a 0;", "(");
        error(1, "loom 2 9;warp a 0;", "a");
        error(1, "loom 2 9;warp a 0;", "repeat 2(0)");
    }

    /** Whatever follows the whole item, or the end in its place, has an error of the grammar. */
    private static void item(String item) {
        valid(BROKEN + item, 1);
        for (String more : new String[] {"a", "(", ")", "0", "warp a 0", "back(0)"}) {
            error(1, BROKEN + item + " ", more);
        }
        String[] tokens = item.split(" ");
        String before = BROKEN;
        for (String token : tokens) {
            error(1, before, "");
            error(1, before, ";" + item);
            error(1, before, ")");
            error(1, before, "(");
            boolean isNumber = Character.isDigit(token.charAt(0));
            error(1, before, isNumber ? "a" : "0");
            error(1, before, isNumber ? "mirror" : "z");
            before += token + " ";
        }
    }

    private static void items() {
        for (String item : new String[] {"yarn a 9", "weave 1", "unweave 1", "swap 0 1", "punch 0 1", "dye 0 c",
                "oil 0",
            "invert 1", "strain 5", "motor 5", "mend 0"}) {
            item(item);
        }
        valid("loom 2 9;warp a 0", 0);
        valid("loom 2 9;warp a" + Given.repeated(" 1", 24), 0);
        error(1, "loom 2 9;warp", "");
        error(1, "loom 2 9;warp", ";warp a 0");
        error(1, "loom 2 9;warp a", "");
        error(1, "loom 2 9;warp a ", ";warp a 0");
        error(1, "loom 2 9;warp a ", "b 0");
        error(1, "loom 2 9;warp a ", "(0)");
        error(1, "loom 2 9;warp a 0 ", "b 0");
        error(1, "loom 2 9;warp a 0 ", "(");
        valid(TWO + "card a", 0);
        valid(TWO + "card a 0", 0);
        valid(TWO + "card a 1 0", 0);
        error(1, TWO + "card", "");
        error(1, TWO + "card", ";card a");
        error(1, TWO + "card ", "0 a");
        error(1, TWO + "card a 0 ", "a");
        error(1, TWO + "card a ", "b");
        error(1, TWO + "card a ", ")");
        valid(CARDS + "deck 0", 1);
        valid(CARDS + "deck 0" + Given.repeated(" 1", 99), 100);
        error(1, CARDS + "deck", "");
        error(1, CARDS + "deck", ";deck 0");
        error(1, CARDS + "deck ", "a");
        error(1, CARDS + "deck 0 ", "a");
        error(1, CARDS + "deck 0 ", "card a");
    }

    private static void parts() {
        String deck = CARDS + "deck ";
        for (String name : new String[] {"repeat 1", "mirror", "back"}) {
            valid(deck + name + "(0)", 1);
            valid(deck + name + "(0 0 0)0", name.equals("mirror") ? 6 : 4);
            valid(deck + name + "(mirror(0)0 back(1)repeat 1(0 1))", name.equals("mirror") ? 9 : 5);
            error(1, deck + name, "");
            error(1, deck + name + " ", "0");
            error(1, deck + name + " ", ")");
            error(1, deck + name + " ", ";");
            error(1, deck + name + " ", "mirror(0)");
            error(1, deck + name + "(", "");
            error(1, deck + name + "(", ")");
            error(1, deck + name + "(", "(0))");
            error(1, deck + name + "(", ";deck 0");
            error(1, deck + name + "(", "a)");
            error(1, deck + name + "(0", "");
            error(1, deck + name + "(0", ";deck 0");
            error(1, deck + name + "(0 ", "(0)");
            error(1, deck + name + "(0 ", "deck 0)");
            error(1, deck + name + "(0)", ")");
            error(1, deck + name + "(back(0)", "");
        }
        error(1, deck + "repeat", "(0)");
        error(1, deck + "repeat ", "a(0)");
        error(1, deck + "repeat ", "");
        error(1, deck + "repeat 2 ", "2(0)");
        error(1, deck + "mirror ", "2(0)");
        error(1, deck + "back ", "2(0)");
        error(1, deck, "(0)");
        error(1, deck, ")");
        error(1, deck + "0 ", "(");
        error(1, deck + "0 ", ")");
        error(1, deck, "repeats 2(0)");
        error(1, deck, "mirro(0)");
        error(1, deck, "backs(0)");
    }

    private static void colours() {
        for (char letter = 'a'; letter <= 'z'; letter++) {
            for (String before : new String[] {"card ", "yarn ", "warp ", "card a;dye 0 "}) {
                String after = before.startsWith("yarn") || before.startsWith("warp") ? " 1" : "";
                if (letter <= 'f') {
                    valid(TWO + before + letter + after, 0);
                } else {
                    error(1, TWO + before, letter + after);
                }
            }
        }
        for (String other : new String[] {"aa", "ab", "fa", "abcdefa", "A", "F", "`", "0", "5", ";", "(", ")"}) {
            error(1, TWO + "warp ", other + " 0");
            error(1, TWO + "card ", other + " 0");
            error(1, TWO + "yarn ", other + " 1");
            error(1, CARDS + "dye 0 ", other);
        }
    }

    private static void indices() {
        for (int n = 2; n <= 8; n++) {
            String loom = "loom " + n + " 9;warp a 0;card a;";
            for (String before : new String[] {"warp b ", "card a ", "punch 0 ", "oil "}) {
                valid(loom + before + "0", 0);
                valid(loom + before + (n - 1), 0);
                error(2, loom + before, "" + n);
                error(2, loom + before, "999");
            }
        }
        for (int n = 1; n <= 12; n++) {
            String loom = LEAST + Given.repeated(";card a", n) + ";";
            for (String before : new String[] {"deck ", "deck back(", "punch ", "dye ", "invert ", "swap "}) {
                String after = before.startsWith("punch") ? " 0" : before.startsWith("dye")
                        ? " a" : before.endsWith("(") ? ")" : "";
                if (!before.startsWith("swap")) {
                    valid(loom + before + 0 + after, before.startsWith("deck") ? 1 : 0);
                    valid(loom + before + (n - 1) + after, before.startsWith("deck") ? 1 : 0);
                }
                error(2, loom + before, n + after);
                error(2, loom + before, 12 + after);
                error(2, loom + before, 999 + after);
            }
            error(2, loom + "swap 0 ", "" + n);
            error(2, loom + "swap 0 ", "999");
        }
        valid(LEAST + Given.repeated(";card a", 12) + ";swap 0 11", 0);
        error(2, LEAST + ";deck ", "0");
        error(2, LEAST + ";invert ", "0");
        error(2, "loom 2 9;mend ", "0");
        for (int n = 1; n <= 24; n++) {
            String loom = "loom 2 9;warp a" + Given.repeated(" 0", n)
                    + ";card a 0;deck 0;yarn a 99;strain 1;weave 1;mend ";
            valid(loom + 0, 1);
            valid(loom + (n - 1), 1);
            error(2, loom, "" + n);
            error(2, loom, "999");
        }
    }

    private static void range(String before, int least, int greatest, String after) {
        int picks = loom(before + least + after).deckLength();
        valid(before + greatest + after, before.endsWith("repeat ") ? greatest * picks : picks);
        if (least > 0) {
            error(2, before, least - 1 + after);
        }
        if (greatest < 999) {
            error(2, before, greatest + 1 + after);
            error(2, before, 999 + after);
        }
        error(1, before, "1000" + after);
    }

    private static void ranges() {
        range("loom ", 2, 8, " 9;warp a 0");
        range("loom 2 ", 1, 200, ";warp a 0");
        range(TWO + "strain ", 0, 60, "");
        range(TWO + "motor ", 1, 24, "");
        range(TWO + "yarn a ", 1, 999, "");
        range(CARDS + "deck 0;weave ", 1, 60, "");
        range(CARDS + "deck 0;weave 60;unweave ", 1, 60, "");
        range(CARDS + "deck repeat ", 1, 20, "(0)");
        error(2, TWO + "weave ", "0");
        error(2, TWO + "weave ", "61");
        error(2, TWO + "unweave ", "0");
        error(2, TWO + "unweave ", "61");
        Check.same("the limit 200 of loom is taken whole",
                loom("loom 2 200;warp a 0;card a 0;card a;deck 0 1;yarn a 99;weave 60")
                .isStuck(0), false);
    }

    private static void effects() {
        Sentence.holds("The items take effect in their order.", SetupBoundaryTest::order);
        Sentence.holds("\"warp\" adds a warp of the colour for each harness.", () -> {
            CardLoom x = loom("loom 8 9;warp c 7;warp d 0 7 0");
            Check.same("one, then three", x.warpCount() + ":" + x.warpHarness(0) + x.warpHarness(1) + x.warpHarness(2)
                    + x.warpHarness(3), "4:7070");
            Check.same("their colours", "" + x.warpColour(0) + x.warpColour(1) + x.warpColour(2) + x.warpColour(3),
                    "2333");
            Check.same("the same harness again", x.warpsOn(7) + " " + x.warpsOn(0) + " " + x.warpsOn(1), "2 2 0");
            Check.same("24 in one item", loom("loom 2 9;warp a" + Given.repeated(" 1", 24)).warpsOn(1), 24);
            Check.same("24 in 24 items", loom("loom 2 9" + Given.repeated(";warp a 1", 24)).warpsOn(1), 24);
        });
        Sentence.holds("\"card\" adds a card that lifts the harnesses.", () -> {
            CardLoom x = loom("loom 8 9;warp a 0;card a;card b 7;card c 7 6 5 4 3 2 1 0");
            Check.same("none", Given.card(x, 0), "........ a");
            Check.same("the last", Given.card(x, 1), ".......o b");
            Check.same("all", Given.card(x, 2), "oooooooo c");
        });
        Sentence.holds("\"deck\" adds parts at the end of the deck.", () -> {
            Check.same("to none", Given.deck(loom(CARDS + "deck 1")), "1");
            Check.same("to others", Given.deck(loom(CARDS + "deck 1;deck back(0)1;deck 0")), "1 b(0) 1 0");
            Check.same("the picks, too", Given.picks(loom(CARDS + "deck 1 0;deck back(1 1 0)")), "1 0 0 1 1");
            Check.same("when all rows are removed", Given.deck(loom(ROWS + "unweave 2;deck 1")), "0 1 1");
        });
        Sentence.holds("\"yarn\" brings yarn.", () -> {
            Check.same("the least", loom(TWO + "yarn f 1").yarn(5), 1);
            Check.same("the most", loom(TWO + "yarn a 999").yarn(0), 999);
            Check.same("to what is there", loom(TWO + "yarn a 999;yarn a 999;yarn a 1").yarn(0), 1999);
        });
        Sentence.holds("\"weave\" weaves as many picks as told.", () -> {
            Check.same("one", loom(CARDS + "deck 0;weave 1").rowCount(), 1);
            Check.same("sixty", loom(CARDS + "deck 0;weave 60").rowCount(), 60);
            Check.same("to sixty", loom(CARDS + "deck 0;weave 59;weave 1").rowCount(), 60);
            Check.same("up to the last yarn", loom(TWO + "card a;deck 0;yarn a 6;weave 3").yarn(0), 0);
            Check.same("nothing to undo", loom(CARDS + "deck 0;weave 1").undoCount(), 0);
        });
        Sentence.holds("\"unweave\" removes rows.", () -> {
            Check.same("one", loom(ROWS + "unweave 1").rowCount(), 1);
            Check.same("all", loom(ROWS + "unweave 2").rowCount() + " " + loom(ROWS + "unweave 2").yarn(0), "0 999");
            Check.same("one after the other", loom(ROWS + "unweave 1;unweave 1").rowCount(), 0);
            Check.same("sixty", loom(CARDS + "deck 0;weave 60;unweave 60").rowCount(), 0);
        });
        moreEffects();
    }

    private static void order() {
        error(2, TWO + "deck ", "0;card a");
        error(2, TWO + "card a;swap 0 ", "1;card b");
        error(3, TWO + "card a;deck 0;weave ", "1;yarn a 9");
        error(3, TWO + "card a;yarn a 9;weave ", "1;deck 0");
        error(3, TWO + "card a;deck 0;yarn a 9;unweave ", "1;weave 1");
        error(3, CARDS + "deck 0;strain 1;mend ", "0;weave 1");
        valid(TWO + "card a;deck 0;yarn a 2;weave 1;unweave 1;weave 1", 1);
        Check.same("the motor after the row", loom(TWO + "card a 0 1;deck 0;yarn a 9;weave 1;motor 1").rowCount(), 1);
        error(3, TWO + "card a 0 1;deck 0;yarn a 9;motor 1;weave ", "1");
        Check.same("the strain limit after the row", loom(CARDS + "deck 0;weave 1;strain 1").brokenCount(), 0);
        Check.same("the strain limit before the row", loom(CARDS + "deck 0;strain 1;weave 1").brokenCount(), 1);
        Check.same("swap, then punch", Given.card(loom(CARDS + "swap 0 1;punch 0 0"), 0), "oo b");
        Check.same("punch, then swap", Given.card(loom(CARDS + "punch 0 0;swap 0 1"), 0), ".o b");
        Check.same("invert, then punch", Given.card(loom(CARDS + "invert 0;punch 0 0"), 0), "oo a");
        Check.same("dye, then swap", Given.card(loom(CARDS + "dye 0 f;swap 0 1"), 1), "o. f");
        CardLoom warps = loom("loom 2 9;card a 0;deck 0;weave 3;unweave 3;warp a 0 1;yarn a 2;weave 1");
        Check.same("rows before the warps", warps.rowCount() + " " + warps.wear(0) + " " + warps.yarn(0), "1 1 0");
    }

    private static void moreEffects() {
        Sentence.holds("\"swap\" exchanges what two cards lift", () -> {
            CardLoom x = loom("loom 8 1;warp a 0;card a;card f 0 1 2 3 4 5 6 7;swap 1 0");
            Check.same("none and all", Given.card(x, 0) + " " + Given.card(x, 1), "oooooooo f ........ a");
            Check.same("back again", Given.card(loom(CARDS + "swap 0 1;swap 1 0"), 0), "o. a");
            Check.same("punch on", Given.card(loom("loom 8 1;warp a 0;card a;punch 0 7"), 0), ".......o a");
            Check.same("punch off", Given.card(loom("loom 8 1;warp a 0;card a 7;punch 0 7"), 0), "........ a");
            Check.same("dye", Given.card(loom(CARDS + "dye 1 f"), 1), ".o f");
            Check.same("dye with the same colour", Given.card(loom(CARDS + "dye 1 b"), 1), ".o b");
            CardLoom oiled = loom("loom 2 1;warp a 0;card a 0;deck 0;yarn a 9;weave 1;oil 0");
            Check.same("oil", oiled.isStuck(0) + " " + oiled.wear(0) + " " + oiled.isLifted(0), "false 0 true");
            Check.same("oil what is not worn", loom(TWO + "oil 1").wear(1), 0);
        });
        Sentence.holds("\"invert\" lets a card lift exactly", () -> {
            for (int n = 2; n <= 8; n++) {
                String all = " 0 1 2 3 4 5 6 7".substring(0, 2 * n);
                String loom = "loom " + n + " 9;warp a 0;card a;card b" + all + ";card c " + (n - 1)
                        + ";invert 0;invert 1;invert 2";
                CardLoom x = loom(loom);
                Check.same("none", Given.card(x, 0), "o".repeat(n) + " a");
                Check.same("all", Given.card(x, 1), ".".repeat(n) + " b");
                Check.same("the last", Given.card(x, 2), "o".repeat(n - 1) + ". c");
                Check.same("no harness that is not there", x.liftDistance(0, 1) + " " + x.averageLifts(),
                        n + " " + (2 * n - 1) / 3.0);
                Check.same("the opposite one is found", x.oppositeCard(0) + " " + x.oppositeCard(1), "1 0");
            }
            Check.same("back again", Given.card(loom(CARDS + "invert 0;invert 0"), 0), "o. a");
        });
        Sentence.holds("\"strain\" sets the strain limit", () -> {
            Check.same("the greatest strain limit", loom(CARDS + "deck 0;strain 60;weave 59").brokenCount() + " "
                    + loom(CARDS + "deck 0;strain 60;weave 60").brokenCount(), "0 1");
            Check.same("the strain limit 1", loom(CARDS + "deck 0;strain 1;weave 1").brokenCount(), 1);
            Check.same("the strain limit 0", loom(CARDS + "deck 0;strain 1;strain 0;weave 60").brokenCount(), 0);
            String one = TWO + "card a 0;card b 0 1;yarn a 9;yarn b 9;";
            Check.same("the least strength", loom(one + "deck 0 1;motor 1").picksPossible(), 1);
            Check.same("the greatest strength", loom(one + "deck 0 1;motor 1;motor 24").picksPossible(), 8);
            Check.same("mended", loom(BROKEN + "mend 0").brokenCount(), 0);
            Check.same("and broken by the next row", loom(BROKEN + "mend 0;weave 1").brokenCount(), 1);
        });
        Sentence.holds("A change of a card by \"swap\"", () -> {
            for (String change : new String[] {"swap 0 1", "punch 0 0", "punch 0 1", "dye 0 f", "invert 0"}) {
                CardLoom x = loom(CARDS + "yarn f 9;deck 0;" + change + ";weave 1");
                Check.same("the row differs by " + change, x.wrongCount() + " " + x.isWrong(0), "1 true");
                CardLoom before = loom(CARDS + "deck 0;weave 1;" + change);
                Check.same("the row before is right by " + change, before.wrongCount(), 0);
            }
            Check.same("the swap is seen", loom(CARDS + "deck 0;swap 0 1;weave 1").swapSecond(), 1);
        });
    }

    private static void errors() {
        Sentence.holds("Parsing stops at the first token that has an error.", () -> {
            error(3, CARDS + "card c 0 ", "0 9;!;warp g;loom");
            error(2, "loom ", "9 0;warp g 9");
            error(2, "loom 2 ", "201;!");
            error(4, CARDS + Given.repeated("card c;", 10), "card g 9 !");
            error(1, "loom ", "a 0;warp a 2");
            error(2, "loom 2 9;warp a ", "2 0 g");
            error(3, TWO + "unweave ", "1;;");
            error(4, TWO + "card a;deck back(back(back(", "back(0 9");
            error(1, "", "!");
        });
        Sentence.holds("If several errors apply to a token", SetupBoundaryTest::severalErrors);
        Sentence.holds("SYNTAX_ERROR: the byte starts no token", SetupBoundaryTest::syntaxErrors);
        Sentence.holds("RANGE_ERROR: a number is out of its range", SetupBoundaryTest::rangeErrors);
        Sentence.holds("CONFLICT_ERROR: a harness that is listed a second time", SetupBoundaryTest::conflictErrors);
        Sentence.holds("LIMIT_ERROR: the harness of a 25th warp", SetupBoundaryTest::limitErrors);
    }

    private static void severalErrors() {
        String warps = "loom 2 9;warp a" + Given.repeated(" 0", 24);
        String cards = TWO + Given.repeated("card a;", 12);
        String hundred = CARDS + "deck repeat 20(0 0 0 0 0)";
        // 1 before 2
        error(1, "loom ", "1000 9;warp a 0");
        error(1, CARDS + "deck ", "0002");
        // 1 before 3
        error(1, ROWS + "oil 0 ", "warp a 0");
        error(1, ROWS + "oil 0 ", "deck 0");
        error(1, ROWS + "unweave ", "1000");
        error(1, CARDS + "weave ", "1000");
        error(1, CARDS + "card a 0 ", "0000");
        error(1, BROKEN + "mend ", "0001");
        // 1 before 4
        error(1, warps + " ", "0000");
        error(1, cards + "oil 0 ", "card a");
        error(1, hundred + " ", "0000");
        error(1, CARDS + "deck back(back(back(0 ", "repeats");
        error(1, CARDS + "deck repeat 20(0 0 0 0 0)", ")");
        error(1, "loom 2 9;", "");
        error(1, "loom 2 9;card", "");
        error(1, "loom 2", "");
        // 2 before 3
        error(2, TWO + "weave ", "0");
        error(2, TWO + "weave ", "61");
        error(2, ROWS + "unweave ", "61");
        error(2, CARDS + "card a 0 ", "2");
        error(2, TWO + "mend ", "2");
        error(2, TWO + "swap ", "0 0");
        // 2 before 4
        error(2, warps + " ", "2");
        error(2, hundred + " ", "2");
        error(2, CARDS + "deck back(repeat 20(0 0 0 0 0)", "2)");
        // 3 before 4
        error(3, warps + ";card a;deck 0;yarn a 99;weave 1;", "warp a 0");
        error(3, hundred + ";weave 1;", "deck 0");
    }

    private static void syntaxErrors() {
        error(1, "", "#loom 2 9");
        error(1, TWO, "#");
        error(1, TWO + "strain 0", "#");
        error(1, CARDS + "deck 0 back(0", "#)");
        error(1, TWO, "abcdefgh");
        error(1, TWO + "card ", "aaaaaaaa");
        error(1, TWO + "yarn a ", "1000");
        error(1, TWO + "yarn a ", "0001");
        error(1, TWO, "abcdefg");
        error(1, TWO + "card ", "abcdefg");
        error(1, TWO + "card ", "g");
        error(1, TWO + "card ", "z");
        error(1, TWO + "card ", "ff");
        valid(TWO + "card f", 0);
        endsTooEarly();
    }

    private static void endsTooEarly() {
        String setup = "loom 2 9! ; warp a 0! 1! ; card a! 0! 1! ; card b! ; deck 0! 1! repeat 2 ( 0 1 )! back ( mirror ( 0 ) )! ; "
                + "yarn a 99! ; yarn b 99! ; strain 1! ; weave 1! ; mend 0! ; unweave 1! ; swap 0 1! ; punch 0 1! ; dye 0 a! ; "
                + "oil 0! ; invert 0! ; motor 5!";
        String before = "";
        for (String token : setup.split(" ")) {
            before += token.replace("!", "") + " ";
            if (!token.endsWith("!")) {
                error(1, before, "");
                error(1, before.trim(), "");
            } else if (before.contains("warp")) {
                valid(before, loom(before).deckLength());
            } else {
                error(4, before, "");
            }
        }
    }

    private static void rangeErrors() {
        error(2, "loom ", "0 9");
        error(2, "loom ", "999 9");
        error(2, "loom 2 ", "999");
        error(2, TWO + "strain ", "61");
        error(2, TWO + "motor ", "0");
        error(2, TWO + "motor ", "25");
        error(2, TWO + "yarn a ", "0");
        error(2, TWO + "yarn a ", "000");
        error(2, CARDS + "deck repeat ", "0(0)");
        error(2, CARDS + "deck repeat ", "21(0)");
        error(2, CARDS + "deck repeat 2(0 ", "2)");
        error(2, TWO + "oil ", "2");
        error(2, TWO + "mend ", "2");
        error(2, TWO + "invert ", "0");
        error(2, CARDS + "invert ", "2");
        error(2, CARDS + "punch ", "2 0");
        error(2, CARDS + "punch 1 ", "2");
        error(2, CARDS + "dye ", "2 a");
        error(2, CARDS + "swap ", "2 2");
        error(2, CARDS + "swap 1 ", "2");
    }

    private static void conflictErrors() {
        valid("loom 8 9;warp a 0;card a 0 7", 0);
        error(3, "loom 8 9;warp a 0;card a 0 7 ", "0");
        error(3, "loom 8 9;warp a 0;card a 0 1 2 3 4 5 6 7 ", "7");
        valid(TWO + "card a 0;card a 0", 0);

        valid(TWO + "card a;deck 0;yarn a 4;weave 2", 1);
        error(3, TWO + "card a;deck 0;yarn a 4;weave ", "3");
        error(3, TWO + "card a;deck 0;yarn a 5;weave ", "3");
        error(3, TWO + "card a;deck 0;yarn a 1;weave ", "1");
        valid(CARDS + "deck 0;weave 60", 1);
        error(3, CARDS + "deck 0;weave 60;weave ", "1");
        error(3, CARDS + "deck 0;weave 1;weave ", "60");
        error(3, CARDS + "weave ", "1");
        valid(CARDS + "card a 0 1;deck 0 2;motor 1;weave 1", 2);
        error(3, CARDS + "card a 0 1;deck 0 2;motor 1;weave ", "2");

        valid(ROWS + "unweave 2", 2);
        error(3, ROWS + "unweave ", "3");
        error(3, ROWS + "unweave 2;unweave ", "1");
        error(3, CARDS + "deck 0;weave 59;unweave ", "60");
        error(3, TWO + "unweave ", "1");

        error(3, CARDS + "swap 0 ", "0");
        error(3, CARDS + "swap 1 ", "1");
        error(3, CARDS + "swap 001 ", "01");

        error(3, TWO + "mend ", "0");
        error(3, BROKEN + "mend ", "1");
        error(3, BROKEN + "mend 0;mend ", "0");

        error(3, ROWS, "warp a 0");
        error(3, ROWS, "deck 0");
        error(3, ROWS + "unweave 1;", "warp a 0");
        error(3, ROWS + "unweave 1;", "deck 0");
        error(3, ROWS, "warp");
        error(3, ROWS, "deck");
        valid(ROWS + "unweave 2;warp a 0;deck 0", 3);
        valid(ROWS + "card a;yarn a 1", 2);
    }

    private static void limitErrors() {
        String warps = "loom 2 9;warp a" + Given.repeated(" 0", 23);
        valid(warps + " 1", 0);
        error(4, warps + " 1 ", "1");
        error(4, warps + " 1;warp a ", "1");
        valid(warps + ";warp a 1", 0);
        error(4, warps + ";warp a 1 ", "1");

        String cards = TWO + Given.repeated("card a;", 11);
        valid(cards + "card b 1", 0);
        error(4, cards + "card b 1;", "card");
        error(4, cards + "card b 1;", "card a");

        String fifty = "repeat 10(0 0 0 0 0)";
        String hundred = "repeat 20(0 0 0 0 0)";
        String deck = CARDS + "deck ";
        valid(deck + hundred, 100);
        error(4, deck + hundred + " ", "0");
        error(4, deck + fifty + fifty + " ", "0");
        valid(deck + "back(" + hundred + ")", 100);
        error(4, deck + "back(" + hundred + " ", "0)");
        error(4, deck + "back(back(" + hundred + " ", "0))");
        error(4, deck + "back(back(" + fifty + fifty + " ", "0))");
        error(4, deck + "0 back(" + hundred + " ", "0)");
        error(4, deck + hundred + " back(" + hundred + " ", "0)");
        error(4, deck + "0 back(" + hundred, ")");

        valid(deck + "repeat 2(" + fifty + ")", 100);
        error(4, deck + "repeat 2(" + fifty + " 0", ")");
        error(4, deck + "repeat 3(" + fifty, ")");
        error(4, deck + "repeat 20(" + hundred, ")");
        valid(deck + "mirror(" + fifty + ")", 99);
        valid(deck + "0 mirror(" + fifty + ")", 100);
        error(4, deck + "mirror(" + fifty + " 0", ")");
        error(4, deck + "0 0 mirror(" + fifty, ")");
        valid(deck + "repeat 1(" + hundred + ")", 100);
        error(4, deck + "0 repeat 1(" + hundred, ")");
        valid(deck + "back(" + fifty + " back(" + fifty + "))", 100);
        error(4, deck + "back(0 " + fifty + " back(" + fifty, "))");
        error(4, deck + "back(back(0 " + fifty + ")repeat 10(0 0 0 0 0", "))");
        valid(deck + "repeat 19(0 0 0 0 0) back(0 back(1 mirror(0 1)))", 100);
        error(4, deck + "repeat 19(0 0 0 0 0) back(0 back(1 1 mirror(0 1))", ")");

        valid(deck + "back(mirror(repeat 2(0)))", 3);
        valid(deck + "back(mirror(repeat 2(0)repeat 2(0))mirror(back(0)))", 8);
        for (String word : new String[] {"repeat", "mirror", "back"}) {
            error(4, deck + "back(mirror(repeat 2(", word);
            error(4, deck + "back(mirror(repeat 2(0 ", word);
            error(4, deck + "back(back(back(0)back(0 ", word + "(0");
            error(4, deck + "0;deck mirror(mirror(mirror(", word + " 2(0)");
            error(1, deck + "back(mirror(", word.equals("repeat") ? "repeats" : word + "ed");
        }

        error(4, "loom 2 9", "");
        error(4, "loom 2 9   ", "");
        error(4, "loom 2 9;card a;yarn a 9;strain 1;motor 1", "");
        error(4, "loom 2 9;card a;deck 0;weave 60", "");
        valid("loom 2 9;card a;deck 0;weave 60;unweave 60;warp a 0", 1);
    }
}
