/** Promises 23 to 28 and 52: the deck and its text. */
final class DeckTest {
    private static final String C = "loom 2 9;warp a 0;card a;card b 0;card c 1;";

    public static void main(String[] args) {
        withoutSetup();
        picks();
        depth();
        period();
        palindrome();
        text();
        Check.end("DeckTest");
    }

    private static CardLoom deck(String parts) {
        return Given.loom(C + "deck " + parts);
    }

    private static void withoutSetup() {
        CardLoom x = new CardLoom();
        Check.fails("23", Check.STATE, x::deckLength);
        Check.fails("24", Check.STATE, () -> x.deckCard(-1));
        Check.fails("25", Check.STATE, () -> x.cardUses(-1));
        Check.fails("26", Check.STATE, x::deckDepth);
        Check.fails("27", Check.STATE, x::deckPeriod);
        Check.fails("28", Check.STATE, x::isPalindrome);
        Check.fails("52", Check.STATE, x::writeDeck);
    }

    private static void picks() {
        String[][] due = {
            {"2", "2"}, {"0 1 2", "0 1 2"}, {"repeat 1(0 1)", "0 1"}, {"repeat 3(0 1)", "0 1 0 1 0 1"},
            {"mirror(0)", "0"}, {"mirror(0 1)", "0 1 0"}, {"mirror(0 1 2)", "0 1 2 1 0"},
            {"back(0)", "0"}, {"back(0 1)", "1 0"}, {"back(0 1 2)", "2 1 0"},
            {"2 back(0 repeat 2(1 2))0", "2 2 1 2 1 0 0"},
            {"mirror(0 back(1 2))", "0 2 1 2 0"},
            {"repeat 2(mirror(0 1)2)", "0 1 0 2 0 1 0 2"},
            {"back(mirror(0 repeat 2(1))2)", "2 0 1 1 1 0"},
            {"0;deck back(1 2);deck 1", "0 2 1 1"},
        };
        for (String[] row : due) {
            CardLoom x = deck(row[0]);
            Check.same("24: " + row[0], Given.picks(x), row[1]);
            Check.same("23: " + row[0], x.deckLength(), (row[1].length() + 1) / 2);
        }
        CardLoom x = deck("repeat 20(0 0 1 2 1)");
        Check.same("23: most", x.deckLength(), 100);
        Check.same("25", x.cardUses(0) * 10000 + x.cardUses(1) * 100 + x.cardUses(2), 404020);
        Check.same("25: none", deck("0").cardUses(1), 0);
        Check.fails("24: behind", Check.INDEX, () -> x.deckCard(100));
        Check.fails("24: before", Check.INDEX, () -> x.deckCard(-1));
        Check.fails("25: behind", Check.INDEX, () -> x.cardUses(3));
        Check.fails("25: before", Check.INDEX, () -> x.cardUses(-1));
        CardLoom empty = Given.loom(C + "card d");
        Check.same("23: none", empty.deckLength(), 0);
        Check.same("25: without picks", empty.cardUses(3), 0);
        Check.fails("24: none", Check.INDEX, () -> empty.deckCard(0));
    }

    private static void depth() {
        Check.same("26: none", Given.loom(C + "card d").deckDepth(), 0);
        Check.same("26: cards", deck("0 1 2").deckDepth(), 1);
        Check.same("26: brackets", deck("0 back(1)2").deckDepth(), 2);
        Check.same("26: neighbours", deck("back(1)mirror(2)repeat 2(1)").deckDepth(), 2);
        Check.same("26: in brackets", deck("back(0 mirror(1))back(0)").deckDepth(), 3);
        Check.same("26: deepest", deck("back(0 mirror(1 repeat 2(0)));deck 0").deckDepth(), 4);
    }

    private static void period() {
        Check.same("27: none", Given.loom(C + "card d").deckPeriod(), 0);
        Check.same("27: one pick", deck("0").deckPeriod(), 1);
        Check.same("27: all the same", deck("0 0 0 0 0 0").deckPeriod(), 1);
        Check.same("27: two", deck("repeat 3(0 1)").deckPeriod(), 2);
        Check.same("27: has to divide", deck("0 1 0 1 0").deckPeriod(), 5);
        Check.same("27: three", deck("0 0 1 0 0 1").deckPeriod(), 3);
        Check.same("27: a broken end", deck("0 0 1 0 0 2").deckPeriod(), 6);
    }

    private static void palindrome() {
        Check.same("28: none", Given.loom(C + "card d").isPalindrome(), true);
        Check.same("28: one", deck("1").isPalindrome(), true);
        Check.same("28: two", deck("1 0").isPalindrome(), false);
        Check.same("28: even", deck("1 0 0 1").isPalindrome(), true);
        Check.same("28: mirror", deck("mirror(0 1 2)").isPalindrome(), true);
        Check.same("28: the middle", deck("0 1 2 0").isPalindrome(), false);
    }

    private static void text() {
        Check.same("52: none", Given.deck(Given.loom(C + "card d")), "-");
        Check.same("52: a card", Given.deck(deck("002")), "2");
        Check.same("52: sample", Given.deck(Given.loom(Given.SAMPLE)), "0 1 r2(0 2) m(0 1 2)");
        Check.same("52: nested", Given.deck(deck("back(mirror(repeat 020(0)1)2)back(0);deck 1")), "b(m(r20(0) 1) 2) b(0) 1");
        String many = "loom 2 9;warp a 0" + Given.repeated(";card a", 12) + ";deck 11 repeat 1(10)mirror(back(0))";
        Check.same("52: two digits", Given.deck(Given.loom(many)), "11 r1(10) m(b(0))");
        Check.same("52: the length", deck("0 1").writeDeck(), 3);
        String long1 = C + "deck " + "1 ".repeat(100);
        Check.same("52: a hundred cards", Given.deck(Given.loom(long1)), "1 ".repeat(100).trim());
    }
}
