/** The sentences of promises 50 to 53: the output. */
final class OutputBoundaryTest extends Boundary {
    private static final String CARDS = "loom 2 9;warp a 0;card a;card b 0;card c 1";

    public static void main(String[] args) {
        rows();
        cards();
        deck();
        outputBytes();
        Sentence.end("OutputBoundaryTest");
    }

    private static void rows() {
        promise(50);
        Sentence.holds("Writes a row of the cloth to the output", () -> {
            CardLoom x = loom("loom 2 9;warp a 0;warp f 0;warp a 1;card f 0;card a;deck 0 1;yarn a 9;yarn f 9;weave 2");
            Check.same("the first and the last letter", Given.row(x, 0) + " " + Given.row(x, 1), "AFf aaa");
            Given.deck(x);
            x.writeRow(0);
            Check.same("it replaces a longer or a shorter output", Answers.outputOf(x), "output AFf.");
            x.writeRow(1);
            x.writeRow(1);
            Check.same("it does not add to it", Answers.outputOf(x), "output aaa.");
            Check.same("not by the cards now", Given.row(loom(ONE + ";invert 0;dye 0 f"), 0), "A");
        });
        sentence("row: index of a row of the cloth", () -> Given.row(loom(MOST), 0) + " " + Given.row(loom(MOST), 59),
                "a".repeat(24) + " AffffffABffffffBFffffffF");
        Sentence.holds("Returns the number of bytes of the output.", () -> {
            for (int n = 1; n <= 24; n++) {
                CardLoom x = loom("loom 2 9;warp a" + Given.repeated(" 0", n) + ";card b 0;deck 0;yarn b 99;weave 1");
                Check.same("of " + n + " warps", x.writeRow(0) + " " + Answers.outputOf(x),
                        n + " output " + "A".repeat(n) + ".");
            }
        });
        needsSetupAndTakes(CardLoom::writeRow);
        noSuchRow(CardLoom::writeRow);
    }

    private static void cards() {
        promise(51);
        Sentence.holds("Writes a card to the output", () -> {
            CardLoom x = loom("loom 8 9;warp a 0;card a;card f 0 1 2 3 4 5 6 7;card b 0;card c 7");
            Check.same("none", Given.card(x, 0), "........ a");
            Check.same("all", Given.card(x, 1), "oooooooo f");
            Check.same("the first", Given.card(x, 2), "o....... b");
            Check.same("the last", Given.card(x, 3), ".......o c");
            x.writeDeck();
            x.writeCard(3);
            Check.same("it replaces the output", Answers.outputOf(x), "output .......o c.");
            x.punch(3, 7);
            Check.same("the output is not changed by a change", Answers.outputOf(x), "output .......o c.");
            Check.same("as the card is now", Given.card(x, 3), "........ c");
        });
        sentence("card: index of a card", () -> Given.card(loom(MOST), 0) + " " + Given.card(loom(MOST), 11),
                "........ a o......o f");
        Sentence.holds("Returns the number of bytes of the output.", () -> {
            for (int n = 2; n <= 8; n++) {
                CardLoom x = loom("loom " + n + " 9;warp a 0;card a");
                Check.same("of " + n + " harnesses", x.writeCard(0) + " " + Answers.outputOf(x),
                        n + 2 + " output " + ".".repeat(n) + " a.");
            }
        });
        needsSetupAndTakes(CardLoom::writeCard);
        noSuchCard(CardLoom::writeCard);
    }

    private static String written(String parts) {
        return Given.deck(loom(CARDS + ";deck " + parts));
    }

    private static void deck() {
        promise(52);
        Sentence.holds("Writes the parts of the deck to the output", () -> {
            Check.same("one card", written("0"), "0");
            Check.same("neighbours", written("0 1 2"), "0 1 2");
            Check.same("the least brackets", written("repeat 1(0)mirror(1)back(2)"), "r1(0) m(1) b(2)");
            for (int count = 1; count <= 20; count++) {
                Check.same("count " + count, written("repeat " + count + "(0)"), "r" + count + "(0)");
            }
            Check.same("the greatest count", written("repeat 020(0)"), "r20(0)");
            String cards = LEAST + Given.repeated(";card a", 12);
            Check.same("all indices", Given.deck(loom(cards + ";deck 0 1 2 3 4 5 6 7 8 9 10 11")),
                    "0 1 2 3 4 5 6 7 8 9 10 11");
            Check.same("counts of one and two digits", written("repeat 9(0)repeat 10(1)"), "r9(0) r10(1)");
            Check.same("brackets in brackets", written("back(mirror(repeat 2(0)))"), "b(m(r2(0)))");
            Check.same("spaces between neighbours alone", written("back(back(0 1)2 back(0)back(1))0"),
                    "b(b(0 1) 2 b(0) b(1)) 0");
            Check.same("over several items", written("0;deck back(1);deck 2"), "0 b(1) 2");
            Check.same("as written, not as picks", written("mirror(0 1)repeat 2(0 0)"), "m(0 1) r2(0 0)");
            Check.same("indices of two digits",
                    Given.deck(loom(LEAST + Given.repeated(";card a", 12) + ";deck 009 10 repeat 10(11)")),
                    "9 10 r10(11)");
            CardLoom x = loom(CARDS + ";deck 0 1 2");
            x.writeCard(0);
            x.writeDeck();
            Check.same("it replaces the output", Answers.outputOf(x), "output 0 1 2.");
            x.swapCards(0, 2);
            Check.same("cards change, but not the deck", Given.deck(x), "0 1 2");
        });
        Sentence.holds("Without parts the output is a single hyphen.", () -> {
            Check.same("no cards", Given.deck(loom(LEAST)), "-");
            Check.same("no parts", Given.deck(loom(CARDS)), "-");
            CardLoom x = loom(CARDS);
            Check.same("its length", x.writeDeck() + " " + Answers.outputOf(x), "1 output -.");
            Check.same("one part", written("0"), "0");
        });
        Sentence.holds("Returns the number of bytes of the output.", () -> {
            for (int n = 1; n <= 100; n++) {
                CardLoom x = loom(CARDS + ";deck 0" + Given.repeated(" 1", n - 1));
                Check.same("of " + n + " cards", x.writeDeck(), 2 * n - 1);
                Check.same("the text", Answers.outputOf(x), "output 0" + Given.repeated(" 1", n - 1) + ".");
            }
            String parts = "0 back(back(back(0)))" + Given.repeated("1 back(0)", 38);
            CardLoom most = loom(LEAST + ";card a;card b;deck " + parts);
            String due = "0 b(b(b(0)))" + Given.repeated(" 1 b(0)", 38);
            Check.same("a long one", most.writeDeck() + " " + Answers.outputOf(most),
                    due.length() + " output " + due + ".");
        });
        needsSetupAnd(CardLoom::writeDeck);
    }

    private static void outputBytes() {
        promise(53);
        sentence("Returns a byte of the output.", () -> {
            CardLoom x = loom(CARDS + ";deck mirror(0 1)");
            x.writeDeck();
            return Answers.outputOf(x);
        }, "output m(0 1).");
        Sentence.holds("index: index of the byte", () -> {
            CardLoom x = loom(CARDS + ";deck mirror(0 1)");
            int length = x.writeDeck();
            Check.same("the first and the last", x.outputByte(0) + " " + x.outputByte(length - 1),
                    (int) 'm' + " " + (int) ')');
        });
        Sentence.holds("Returns the byte.", () -> {
            CardLoom x = loom(ONE);
            x.writeRow(0);
            Check.same("a capital letter", x.outputByte(0), 65);
            x.writeDeck();
            Check.same("a digit", x.outputByte(0), 48);
            x.writeCard(0);
            Check.same("o, full stop, space, letter",
                    x.outputByte(0) + " " + x.outputByte(1) + " " + x.outputByte(2) + " " + x.outputByte(3),
                    "111 46 32 98");
            Check.same("hyphen", loom(LEAST).writeDeck(), 1);
        });
        Sentence.holds("Throws IndexOutOfBoundsException if there is no such byte; always",
                OutputBoundaryTest::noSuchByte);
    }

    private static void noSuchByte() {
        CardLoom none = new CardLoom();
        CardLoom setup = loom(MOST);
        for (int bad : FAR) {
            refused("a new object " + bad, none, Check.INDEX, x -> x.outputByte(bad));
            refused("before the first output " + bad, setup, Check.INDEX, x -> x.outputByte(bad));
        }
        refused("a new object 0", none, Check.INDEX, x -> x.outputByte(0));
        refused("before the first output 0", setup, Check.INDEX, x -> x.outputByte(0));
        Check.fails("a refused output is none", Check.INDEX, () -> setup.writeRow(60));
        Check.fails("so there is no byte", Check.INDEX, () -> setup.outputByte(0));
        CardLoom one = loom(ONE);
        bytesAre(one, one.writeRow(0), 1);
        CardLoom most = loom(MOST);
        bytesAre(most, most.writeRow(0), 24);
        bytesAre(most, most.writeCard(0), 10);
        bytesAre(most, most.writeDeck(), 37);
        CardLoom least = loom(LEAST);
        bytesAre(least, least.writeDeck(), 1);
        CardLoom x = loom(MOST);
        x.writeRow(0);
        x.writeCard(0);
        Check.fails("a byte of a longer output before", Check.INDEX, () -> x.outputByte(10));
        Check.fails("the last byte of that", Check.INDEX, () -> x.outputByte(23));
    }

    private static void bytesAre(CardLoom x, int length, int due) {
        Check.same("the length", length, due);
        for (int index : FAR) {
            if (index < 0 || index >= due) {
                refused("the index " + index + " of " + due, x, Check.INDEX, y -> y.outputByte(index));
            }
        }
        refused("the index of the length " + due, x, Check.INDEX, y -> y.outputByte(due));
        Check.same("the last byte of " + due, x.outputByte(due - 1) > 0, true);
    }
}
