/** Makes looms from setups written as text, and reads a loom's output as text. */
final class Given {
    /** Eight warps on four harnesses, three cards, and the picks 0 1 0 2 0 2 0 1 2 1 0. */
    static final String SAMPLE = "loom 4 50;warp a 0 1 2 3 0 1;warp b 2 3;card c 0 1;card d 2 3;card c 1 2;"
            + "deck 0 1 repeat 2(0 2) mirror(0 1 2);yarn c 200;yarn d 60";

    private Given() {
    }

    static CardLoom loom(String setup) {
        CardLoom loom = new CardLoom();
        parse(loom, setup);
        return loom;
    }

    static int parse(CardLoom loom, String setup) {
        append(loom, setup);
        return loom.parseSetup(setup.length());
    }

    static void append(CardLoom loom, String text) {
        for (int i = 0; i < text.length(); i += 20) {
            loom.append(four(text, i), four(text, i + 4), four(text, i + 8), four(text, i + 12), four(text, i + 16));
        }
    }

    private static int four(String text, int from) {
        int four = 0;
        for (int i = from; i < from + 4; i++) {
            four = four << 8 | (i < text.length() ? text.charAt(i) & 255 : ' ');
        }
        return four;
    }

    static String output(CardLoom loom, int length) {
        StringBuilder text = new StringBuilder();
        for (int i = 0; i < length; i++) {
            text.append((char) loom.outputByte(i));
        }
        return text.toString();
    }

    static String row(CardLoom loom, int row) {
        return output(loom, loom.writeRow(row));
    }

    static String card(CardLoom loom, int card) {
        return output(loom, loom.writeCard(card));
    }

    static String deck(CardLoom loom) {
        return output(loom, loom.writeDeck());
    }

    static String picks(CardLoom loom) {
        StringBuilder text = new StringBuilder();
        for (int pick = 0; pick < loom.deckLength(); pick++) {
            text.append(pick == 0 ? "" : " ").append(loom.deckCard(pick));
        }
        return text.toString();
    }

    static String repeated(String text, int times) {
        return text.repeat(times);
    }
}
