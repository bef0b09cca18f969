/** The sentences of promises 23 to 28: the deck. */
final class DeckBoundaryTest extends Boundary {
    private static final String CARDS = "loom 2 9;warp a 0;card a;card b 0;card c 1";

    public static void main(String[] args) {
        picks();
        depth();
        period();
        palindrome();
        Sentence.end("DeckBoundaryTest");
    }

    private static CardLoom deck(String parts) {
        return loom(CARDS + ";deck " + parts);
    }

    private static void picks() {
        promise(23);
        sentence("Returns the number of picks of the deck.",
                () -> deck("0 repeat 3(0 mirror(0 1))back(1 2)").deckLength(), 15);
        Sentence.holds("Returns the number, 0 to 100.", () -> {
            Check.same("no cards", loom(LEAST).deckLength(), 0);
            Check.same("no parts", loom(CARDS).deckLength(), 0);
            for (int n = 1; n <= 100; n++) {
                Check.same("of " + n, deck("0" + Given.repeated(" 1", n - 1)).deckLength(), n);
            }
            Check.same("the most by a repeat", deck("repeat 20(0 0 0 0 0)").deckLength(), 100);
        });
        needsSetupAnd(CardLoom::deckLength);

        promise(24);
        Sentence.holds("Returns the card of a pick of the deck.", () -> {
            CardLoom x = deck("2 repeat 2(0 1)mirror(1 2)back(1 0)");
            Check.same("in their order", Given.picks(x), "2 0 1 0 1 1 2 1 0 1");
            x.swapCards(0, 1);
            Check.same("cards change, but not the deck", Given.picks(x), "2 0 1 0 1 1 2 1 0 1");
        });
        sentence("pick: index of a pick of the deck", () -> loom(MOST).deckCard(0) + " " + loom(MOST).deckCard(99),
                "0 3");
        sentence("Returns index of the card.", () -> loom(MOST).deckCard(0) + " " + loom(MOST).deckCard(11), "0 11");
        needsSetupAndTakes(CardLoom::deckCard);
        Sentence.holds("Throws IndexOutOfBoundsException if there is no such pick", () -> {
            takesIndices(LEAST, 0, CardLoom::deckCard);
            takesIndices(ONE, 1, CardLoom::deckCard);
            takesIndices(Given.SAMPLE, 11, CardLoom::deckCard);
            takesIndices(CARDS + ";deck repeat 11(0 0 0 0 0 0 0 0 0)", 99, CardLoom::deckCard);
            takesIndices(MOST, 100, CardLoom::deckCard);
        });

        promise(25);
        sentence("Returns how often a card occurs in the picks of the deck.",
                () -> deck("0 repeat 3(0 1)mirror(0 1 1)").cardUses(0) + " "
                        + deck("0 repeat 3(0 1)mirror(0 1 1)").cardUses(1), "6 6");
        sentence("card: index of a card",
                () -> loom(MOST).cardUses(0) + " " + loom(MOST).cardUses(3) + " " + loom(MOST).cardUses(11),
                "9 9 8");
        Sentence.holds("Returns the number of picks.", () -> {
            Check.same("none", deck("0").cardUses(2), 0);
            Check.same("without picks", loom(CARDS).cardUses(0), 0);
            Check.same("one", deck("0 1 0").cardUses(1), 1);
            Check.same("all", deck("repeat 20(2 2 2 2 2)").cardUses(2), 100);
        });
        needsSetupAndTakes(CardLoom::cardUses);
        noSuchCard(CardLoom::cardUses);
    }

    private static void depth() {
        promise(26);
        sentence("Returns how deeply the parts of the deck are nested.",
                () -> deck("0 back(0 mirror(1)0)0").deckDepth(), 3);
        Sentence.holds("Returns 0 without parts; 1 if all parts are cards", () -> {
            Check.same("no parts", loom(CARDS).deckDepth(), 0);
            Check.same("no cards", loom(LEAST).deckDepth(), 0);
            Check.same("a card", deck("0").deckDepth(), 1);
            Check.same("a hundred cards", deck("0" + Given.repeated(" 1", 99)).deckDepth(), 1);
            Check.same("two lists of cards", deck("0;deck 1").deckDepth(), 1);
            for (String opening : new String[] {"repeat 1(", "mirror(", "back("}) {
                Check.same("one " + opening, deck(opening + "0)").deckDepth(), 2);
                Check.same("neighbours " + opening, deck("0 " + opening + "0)" + opening + "0)1").deckDepth(), 2);
                Check.same("two " + opening, deck(opening + opening + "0))").deckDepth(), 3);
                Check.same("three " + opening, deck(opening + opening + opening + "0)))").deckDepth(), 4);
            }
            Check.same("the deepest comes first", deck("back(back(back(0)))back(0)1").deckDepth(), 4);
            Check.same("the deepest comes last", deck("0;deck back(0);deck back(0 back(1))").deckDepth(), 3);
            Check.same("neighbours in brackets", deck("back(back(0)back(1)mirror(2))").deckDepth(), 3);
            CardLoom x = deck("back(back(back(0)))");
            Given.parse(x, CARDS + ";deck 0");
            Check.same("of a later setup", x.deckDepth(), 1);
        });
        needsSetupAnd(CardLoom::deckDepth);
    }

    private static void period() {
        promise(27);
        Sentence.holds("Returns the period of the deck: the least number of picks", () -> {
            Check.same("it divides the length", deck("0 1 0 1 0").deckPeriod(), 5);
            Check.same("it divides the length, too", deck("0 1 0 1 0 1").deckPeriod(), 2);
            Check.same("all equal but the first", deck("1 0 0 0").deckPeriod(), 4);
            Check.same("all equal but the last", deck("0 0 0 1").deckPeriod(), 4);
            Check.same("the least", deck("0 0 0 0 0 0").deckPeriod(), 1);
            Check.same("halves", deck("0 1 1 0 1 1").deckPeriod(), 3);
            Check.same("a half that fails at the end", deck("0 1 1 0 1 0").deckPeriod(), 6);
            Check.same("neither a half nor a third", deck("0 1 2 0 2 1").deckPeriod(), 6);
            Check.same("fifty", deck("repeat 2(repeat 7(0 1 1 2 2 1 1)0)").deckPeriod(), 50);
            Check.same("by their cards, not by what they lift", loom(LEAST + ";card a;card a;deck 0 1").deckPeriod(),
                    2);
        });
        Sentence.holds("Returns the period; 0 without picks.", () -> {
            Check.same("no picks", loom(CARDS).deckPeriod(), 0);
            Check.same("one pick", deck("2").deckPeriod(), 1);
            Check.same("two different picks", deck("0 1").deckPeriod(), 2);
            Check.same("a hundred equal picks", deck("repeat 20(1 1 1 1 1)").deckPeriod(), 1);
            Check.same("a hundred picks, the last is another", deck("repeat 11(0 0 0 0 0 0 0 0 0)1").deckPeriod(), 100);
        });
        needsSetupAnd(CardLoom::deckPeriod);
    }

    private static void palindrome() {
        promise(28);
        Sentence.holds("Tells whether the picks of the deck are the same in reverse order.", () -> {
            Check.same("the outer ones differ", deck("0 1 1 1").isPalindrome(), false);
            Check.same("the inner ones differ", deck("0 1 2 0").isPalindrome(), false);
            Check.same("the middle one is alone", deck("0 1 2 1 0").isPalindrome(), true);
            Check.same("an even number", deck("0 1 1 0").isPalindrome(), true);
            Check.same("by the cards, not by what they lift", loom(LEAST + ";card a;card a;deck 0 1").isPalindrome(),
                    false);
        });
        Sentence.holds("Returns true if they are the same (also without picks).", () -> {
            Check.same("no picks", loom(CARDS).isPalindrome(), true);
            Check.same("one pick", deck("1").isPalindrome(), true);
            Check.same("two equal picks", deck("1 1").isPalindrome(), true);
            Check.same("two picks", deck("1 0").isPalindrome(), false);
            Check.same("a hundred equal picks", deck("repeat 20(1 1 1 1 1)").isPalindrome(), true);
            Check.same("a hundred picks, the last is another", deck("repeat 11(0 0 0 0 0 0 0 0 0)1").isPalindrome(),
                    false);
            Check.same("a mirror of 99", deck("mirror(repeat 10(0 1 2 2 1))").isPalindrome(), true);
        });
        needsSetupAnd(CardLoom::isPalindrome);
    }
}
