import java.util.ArrayList;
import java.util.List;
import java.util.TreeSet;

/**
 * The document once more, written as near to its words as can be and with no thought of speed, for ModelTest. Rows are
 * texts, the deck is a tree, states are copies.
 */
final class Model {
    static final class Part {
        String kind;
        int number;
        List<Part> list = new ArrayList<>();

        List<Integer> picks() {
            List<Integer> picks = new ArrayList<>();
            if (kind.equals("card")) {
                picks.add(number);
                return picks;
            }
            List<Integer> inside = picksOf(list);
            int times = kind.equals("repeat") ? number : 1;
            for (int i = 0; i < times; i++) {
                picks.addAll(inside);
            }
            if (kind.equals("mirror")) {
                for (int i = inside.size() - 2; i >= 0; i--) {
                    picks.add(inside.get(i));
                }
            }
            if (kind.equals("back")) {
                java.util.Collections.reverse(picks);
            }
            return picks;
        }

        int depth() {
            int deepest = 0;
            for (Part part : list) {
                deepest = Math.max(deepest, part.depth());
            }
            return 1 + deepest;
        }

        String text() {
            String head = kind.equals("repeat") ? "r" + number : kind.substring(0, 1);
            return kind.equals("card") ? "" + number : head + "(" + textOf(list) + ")";
        }
    }

    static final class Card {
        TreeSet<Integer> lifts = new TreeSet<>();
        int colour;

        Card copy() {
            Card copy = new Card();
            copy.lifts.addAll(lifts);
            copy.colour = colour;
            return copy;
        }
    }

    static final class State {
        boolean[] lifted = new boolean[8];
        boolean[] stuck = new boolean[8];
        int[] wear = new int[8];
        List<Boolean> broken = new ArrayList<>();
        List<Card> cards = new ArrayList<>();
        int[] yarn = new int[6];
        List<String> rows = new ArrayList<>();
        List<Integer> wefts = new ArrayList<>();

        State copy() {
            State copy = new State();
            copy.lifted = lifted.clone();
            copy.stuck = stuck.clone();
            copy.wear = wear.clone();
            copy.broken.addAll(broken);
            for (Card card : cards) {
                copy.cards.add(card.copy());
            }
            copy.yarn = yarn.clone();
            copy.rows.addAll(rows);
            copy.wefts.addAll(wefts);
            return copy;
        }
    }

    static final class SetupError extends RuntimeException {
        private static final long serialVersionUID = 1L;
        final int code;
        final int position;

        SetupError(int code, int position) {
            this.code = code;
            this.position = position;
        }
    }

    /** A loom as a setup made it. */
    static final class Loom {
        int harnesses;
        int limit;
        int strain = 0;
        int motor = 24;
        List<Integer> warpHarness = new ArrayList<>();
        List<Integer> warpColour = new ArrayList<>();
        List<Card> designs = new ArrayList<>();
        List<Part> deck = new ArrayList<>();
        State state = new State();
    }

    private final StringBuilder buffer = new StringBuilder();
    private Loom loom = null;
    private int errorCode = 0;
    private int errorPosition = -1;
    private final List<State> history = new ArrayList<>();
    private final State[] slots = new State[2];
    private String output = "";

    static List<Integer> picksOf(List<Part> parts) {
        List<Integer> picks = new ArrayList<>();
        for (Part part : parts) {
            picks.addAll(part.picks());
        }
        return picks;
    }

    static String textOf(List<Part> parts) {
        StringBuilder text = new StringBuilder();
        for (Part part : parts) {
            text.append(text.length() == 0 ? "" : " ").append(part.text());
        }
        return text.toString();
    }

    // ---- tokens and grammar

    private String text;
    private int start;
    private int end;
    private Loom made;

    private void next() {
        start = end;
        while (start < text.length() && text.charAt(start) == ' ') {
            start++;
        }
        String rest = text.substring(start);
        String run = rest.replaceFirst("(?s)^([a-z]+|[0-9]+|.).*$", "$1");
        end = start + run.length();
    }

    private String token() {
        return text.substring(start, end);
    }

    private SetupError error(int code) {
        return new SetupError(code, start);
    }

    private void take(String due) {
        if (!token().equals(due)) {
            throw error(1);
        }
        next();
    }

    private boolean atNumber() {
        return token().matches("[0-9]{1,3}");
    }

    private int see(int least, int greatest) {
        if (!atNumber()) {
            throw error(1);
        }
        int number = Integer.parseInt(token());
        if (number < least || number > greatest) {
            throw error(2);
        }
        return number;
    }

    private int number(int least, int greatest) {
        int number = see(least, greatest);
        next();
        return number;
    }

    private int colour() {
        if (!token().matches("[a-f]")) {
            throw error(1);
        }
        int colour = token().charAt(0) - 'a';
        next();
        return colour;
    }

    private int card() {
        return number(0, made.designs.size() - 1);
    }

    private int harness() {
        return number(0, made.harnesses - 1);
    }

    private void setup() {
        made = new Loom();
        end = 0;
        next();
        take("loom");
        made.harnesses = number(2, 8);
        made.limit = number(1, 200);
        while (!token().isEmpty()) {
            take(";");
            item();
        }
        if (made.warpHarness.isEmpty()) {
            throw error(4);
        }
    }

    private void item() {
        String word = token();
        if (!word.matches("warp|card|deck|yarn|weave|unweave|swap|punch|dye|oil|invert|strain|motor|mend")) {
            throw error(1);
        }
        boolean cloth = !made.state.rows.isEmpty();
        if (cloth && word.matches("warp|deck")) {
            throw error(3);
        }
        if (word.equals("card") && made.designs.size() == 12) {
            throw error(4);
        }
        next();
        State s = made.state;
        switch (word) {
            case "warp" -> warps();
            case "card" -> addCard();
            case "deck" -> parts(made.deck, 0);
            case "yarn" -> {
                int colour = colour();
                s.yarn[colour] += number(1, 999);
            }
            case "weave" -> {
                int picks = see(1, 60);
                for (int i = 0; i < picks; i++) {
                    if (obstacle(made, s) != 0) {
                        throw error(3);
                    }
                    weaveNext(made, s);
                }
                next();
            }
            case "unweave" -> {
                if (see(1, 60) > s.rows.size()) {
                    throw error(3);
                }
                remove(made, number(1, 60));
            }
            case "swap" -> {
                int card = card();
                if (see(0, made.designs.size() - 1) == card) {
                    throw error(3);
                }
                java.util.Collections.swap(s.cards, card, card());
            }
            case "punch" -> {
                int card = card();
                toggle(s.cards.get(card), harness());
            }
            case "dye" -> {
                int card = card();
                s.cards.get(card).colour = colour();
            }
            case "oil" -> {
                int harness = harness();
                s.wear[harness] = 0;
                s.stuck[harness] = false;
            }
            case "invert" -> {
                Card card = s.cards.get(card());
                for (int h = 0; h < made.harnesses; h++) {
                    toggle(card, h);
                }
            }
            case "strain" -> made.strain = number(0, 60);
            case "motor" -> made.motor = number(1, 24);
            default -> {
                if (!s.broken.get(see(0, s.broken.size() - 1))) {
                    throw error(3);
                }
                s.broken.set(number(0, s.broken.size() - 1), false);
            }
        }
    }

    private static void toggle(Card card, int harness) {
        if (!card.lifts.remove(harness)) {
            card.lifts.add(harness);
        }
    }

    private void warps() {
        int colour = colour();
        do {
            int harness = see(0, made.harnesses - 1);
            if (made.warpHarness.size() == 24) {
                throw error(4);
            }
            made.warpHarness.add(harness);
            made.warpColour.add(colour);
            made.state.broken.add(false);
            next();
        } while (atNumber());
    }

    private void addCard() {
        Card card = new Card();
        card.colour = colour();
        while (atNumber()) {
            if (!card.lifts.add(see(0, made.harnesses - 1))) {
                throw error(3);
            }
            next();
        }
        made.designs.add(card);
        made.state.cards.add(card.copy());
    }

    private void parts(List<Part> list, int depth) {
        do {
            Part part = new Part();
            part.kind = atNumber() ? "card" : token();
            if (part.kind.equals("card")) {
                part.number = see(0, made.designs.size() - 1);
            } else if (part.kind.matches("repeat|mirror|back")) {
                brackets(part, depth);
            } else {
                throw error(1);
            }
            list.add(part);
            if (part.picks().size() > 100 || picksOf(list).size() > 100) {
                throw error(4);
            }
            next();
        } while (atNumber() || token().matches("repeat|mirror|back"));
    }

    /** Ends at the closing bracket, which is the token that has the error if there are too many picks. */
    private void brackets(Part part, int depth) {
        if (depth == 3) {
            throw error(4);
        }
        next();
        if (part.kind.equals("repeat")) {
            part.number = number(1, 20);
        }
        take("(");
        parts(part.list, depth + 1);
        if (!token().equals(")")) {
            throw error(1);
        }
    }

    // ---- weaving

    private static int pick(Loom loom, int row) {
        List<Integer> picks = picksOf(loom.deck);
        return picks.isEmpty() ? -1 : picks.get(row % picks.size());
    }

    private static int obstacle(Loom loom, State s) {
        int warps = loom.warpHarness.size();
        if (loom.deck.isEmpty()) {
            return 1;
        }
        if (s.rows.size() == 60) {
            return 2;
        }
        Card card = s.cards.get(pick(loom, s.rows.size()));
        if (s.yarn[card.colour] < warps) {
            return 3;
        }
        return lifted(loom, card) > loom.motor ? 4 : 0;
    }

    private static int lifted(Loom loom, Card card) {
        int count = 0;
        for (int harness : loom.warpHarness) {
            count += card.lifts.contains(harness) ? 1 : 0;
        }
        return count;
    }

    private static void weaveNext(Loom loom, State s) {
        Card card = s.cards.get(pick(loom, s.rows.size()));
        s.yarn[card.colour] -= loom.warpHarness.size();
        for (int h = 0; h < loom.harnesses; h++) {
            if (!s.stuck[h] && s.lifted[h] != card.lifts.contains(h)) {
                s.lifted[h] = !s.lifted[h];
                s.wear[h]++;
                if (s.wear[h] == loom.limit) {
                    s.stuck[h] = true;
                }
            }
        }
        StringBuilder row = new StringBuilder();
        for (int w = 0; w < loom.warpHarness.size(); w++) {
            boolean shows = s.lifted[loom.warpHarness.get(w)] && !s.broken.get(w);
            row.append((char) (shows ? 'A' + loom.warpColour.get(w) : 'a' + card.colour));
        }
        s.rows.add(row.toString());
        s.wefts.add(card.colour);
        if (loom.strain != 0 && s.rows.size() >= loom.strain) {
            for (int w = 0; w < loom.warpHarness.size(); w++) {
                boolean all = true;
                for (String last : s.rows.subList(s.rows.size() - loom.strain, s.rows.size())) {
                    all &= Character.isUpperCase(last.charAt(w));
                }
                if (all) {
                    s.broken.set(w, true);
                }
            }
        }
    }

    private static void remove(Loom loom, int rows) {
        for (int i = 0; i < rows; i++) {
            loom.state.rows.remove(loom.state.rows.size() - 1);
            int weft = loom.state.wefts.remove(loom.state.wefts.size() - 1);
            loom.state.yarn[weft] += loom.warpHarness.size();
        }
    }

    private String designRow(int card) {
        StringBuilder row = new StringBuilder();
        for (int w = 0; w < loom.warpHarness.size(); w++) {
            boolean shows = loom.designs.get(card).lifts.contains(loom.warpHarness.get(w));
            row.append((char) (shows ? 'A' + loom.warpColour.get(w) : 'a' + loom.designs.get(card).colour));
        }
        return row.toString();
    }

    private int[] swap() {
        if (wrongCount() > 0) {
            for (int a = 0; a < cardCount(); a++) {
                for (int b = a + 1; b < cardCount(); b++) {
                    boolean all = true;
                    for (int row = 0; row < rowCount(); row++) {
                        int card = pick(loom, row);
                        card = card == a ? b : card == b ? a : card;
                        all &= designRow(card).equals(s().rows.get(row));
                    }
                    if (all) {
                        return new int[] {a, b};
                    }
                }
            }
        }
        return new int[] {-1, -1};
    }

    // ---- exceptions

    private State s() {
        if (loom == null) {
            throw new IllegalStateException();
        }
        return loom.state;
    }

    private static void index(int index, int count) {
        if (index < 0 || index >= count) {
            throw new IndexOutOfBoundsException();
        }
    }

    private static void range(int number, int least, int greatest) {
        if (number < least || number > greatest) {
            throw new IllegalArgumentException();
        }
    }

    private Card at(int card) {
        index(card, s().cards.size());
        return s().cards.get(card);
    }

    private void h(int harness) {
        s();
        index(harness, loom.harnesses);
    }

    private void w(int warp) {
        s();
        index(warp, loom.warpHarness.size());
    }

    private String row(int row) {
        index(row, s().rows.size());
        return s().rows.get(row);
    }

    private State change() {
        history.add(s().copy());
        if (history.size() > 8) {
            history.remove(0);
        }
        return s();
    }

    private int write(String text) {
        output = text;
        return text.length();
    }

    private static int longest(String row, String pattern) {
        int longest = 0;
        java.util.regex.Matcher runs = java.util.regex.Pattern.compile(pattern).matcher(row);
        while (runs.find()) {
            longest = Math.max(longest, runs.end() - runs.start());
        }
        return longest;
    }

    private String column(int warp) {
        StringBuilder column = new StringBuilder();
        for (String row : s().rows) {
            column.append(row.charAt(warp));
        }
        return column.toString();
    }

    private String cloth() {
        return String.join("", s().rows);
    }

    // ---- the face

    int append(int a, int b, int c, int d, int e) {
        if (buffer.length() + 20 > 500) {
            return -1;
        }
        for (int four : new int[] {a, b, c, d, e}) {
            buffer.append((char) (four >>> 24)).append((char) (four >>> 16 & 255));
            buffer.append((char) (four >>> 8 & 255)).append((char) (four & 255));
        }
        return buffer.length();
    }

    int parseSetup(int length) {
        if (length < 0 || length > buffer.length()) {
            throw new IndexOutOfBoundsException();
        }
        text = buffer.substring(0, length);
        buffer.setLength(0);
        errorCode = 0;
        errorPosition = -1;
        try {
            setup();
        } catch (SetupError e) {
            errorCode = e.code;
            errorPosition = e.position;
            throw new IllegalArgumentException();
        }
        loom = made;
        history.clear();
        slots[0] = null;
        slots[1] = null;
        return deckLength();
    }

    int parseErrorCode() { return errorCode; }
    int parseErrorPosition() { return errorPosition; }
    int bufferLength() { return buffer.length(); }
    int harnessCount() { s(); return loom.harnesses; }
    int warpCount() { s(); return loom.warpHarness.size(); }
    int warpHarness(int warp) { w(warp); return loom.warpHarness.get(warp); }
    int warpColour(int warp) { w(warp); return loom.warpColour.get(warp); }
    int warpsOn(int harness) { h(harness); return java.util.Collections.frequency(loom.warpHarness, harness); }
    boolean isBroken(int warp) { w(warp); return s().broken.get(warp); }
    int brokenCount() { return java.util.Collections.frequency(s().broken, true); }
    boolean isLifted(int harness) { h(harness); return s().lifted[harness]; }
    int wear(int harness) { h(harness); return s().wear[harness]; }
    boolean isStuck(int harness) { h(harness); return s().stuck[harness]; }
    int cardCount() { return s().cards.size(); }
    boolean lifts(int card, int harness) { at(card); h(harness); return at(card).lifts.contains(harness); }
    int cardColour(int card) { return at(card).colour; }
    int liftedWarps(int card) { return lifted(loom, at(card)); }

    int liftDistance(int card, int other) {
        int count = 0;
        at(card);
        at(other);
        for (int harness = 0; harness < loom.harnesses; harness++) {
            count += lifts(card, harness) != lifts(other, harness) ? 1 : 0;
        }
        return count;
    }

    int oppositeCard(int card) {
        at(card);
        for (int other = 0; other < cardCount(); other++) {
            if (liftDistance(card, other) == loom.harnesses) {
                return other;
            }
        }
        return -1;
    }

    int deckLength() { s(); return picksOf(loom.deck).size(); }
    int deckCard(int pick) { index(pick, deckLength()); return picksOf(loom.deck).get(pick); }
    int cardUses(int card) { at(card); return java.util.Collections.frequency(picksOf(loom.deck), card); }

    int deckDepth() {
        s();
        int deepest = 0;
        for (Part part : loom.deck) {
            deepest = Math.max(deepest, part.depth());
        }
        return deepest;
    }

    int deckPeriod() {
        s();
        List<Integer> picks = picksOf(loom.deck);
        for (int period = 1; period <= picks.size(); period++) {
            List<Integer> repeated = new ArrayList<>();
            for (int i = 0; i < picks.size() / period; i++) {
                repeated.addAll(picks.subList(0, period));
            }
            if (repeated.equals(picks)) {
                return period;
            }
        }
        return 0;
    }

    boolean isPalindrome() {
        s();
        List<Integer> reversed = picksOf(loom.deck);
        java.util.Collections.reverse(reversed);
        return reversed.equals(picksOf(loom.deck));
    }

    int rowCount() { return s().rows.size(); }
    int cellColour(int row, int warp) { row(row); w(warp); return Character.toLowerCase(row(row).charAt(warp)) - 'a'; }
    boolean showsWarp(int row, int warp) { row(row); w(warp); return Character.isUpperCase(row(row).charAt(warp)); }
    int longestWarpFloat(int warp) { w(warp); return longest(column(warp), "[A-F]+"); }
    int longestWeftFloat(int row) { return longest(row(row), "[a-f]+"); }

    int cellsOfColour(int colour) {
        s();
        range(colour, 0, 5);
        return cloth().toLowerCase().replaceAll("[^" + (char) ('a' + colour) + "]", "").length();
    }

    int rowPeriod() {
        for (int period = 1; period < rowCount(); period++) {
            boolean all = true;
            for (int row = 0; row + period < rowCount(); row++) {
                all &= row(row).equalsIgnoreCase(row(row + period));
            }
            if (all) {
                return period;
            }
        }
        return rowCount();
    }

    float warpShare() {
        return rowCount() == 0 ? 0.0f : (float) cloth().replaceAll("[a-f]", "").length() / (float) cloth().length();
    }

    double averageLifts() {
        int sum = 0;
        for (Card card : s().cards) {
            sum += card.lifts.size();
        }
        return cardCount() == 0 ? 0.0 : (double) sum / (double) cardCount();
    }

    boolean isWrong(int row) { return !row(row).equals(designRow(pick(loom, row))); }

    int wrongCount() {
        int count = 0;
        for (int row = 0; row < rowCount(); row++) {
            count += isWrong(row) ? 1 : 0;
        }
        return count;
    }

    int firstWrongRow() {
        for (int row = 0; row < rowCount(); row++) {
            if (isWrong(row)) {
                return row;
            }
        }
        return -1;
    }

    int swapFirst() { s(); return swap()[0]; }
    int swapSecond() { s(); return swap()[1]; }
    int yarn(int colour) { s(); range(colour, 0, 5); return s().yarn[colour]; }

    int yarnNeeded(int colour) {
        s();
        range(colour, 0, 5);
        int needed = 0;
        if (deckLength() > 0) {
            for (int pick = rowCount() % deckLength(); pick < deckLength(); pick++) {
                needed += cardColour(deckCard(pick)) == colour ? warpCount() : 0;
            }
        }
        return needed;
    }

    int nextCard() { return pick(loom, rowCount()); }
    int weaveObstacle() { s(); return obstacle(loom, s()); }

    int picksPossible() {
        State copy = s().copy();
        int picks = 0;
        while (obstacle(loom, copy) == 0) {
            weaveNext(loom, copy);
            picks++;
        }
        return picks;
    }

    int picksUntilStuck() {
        State copy = s().copy();
        int picks = 0;
        while (obstacle(loom, copy) == 0) {
            weaveNext(loom, copy);
            picks++;
            for (int h = 0; h < loom.harnesses; h++) {
                if (copy.stuck[h] && !s().stuck[h]) {
                    return picks;
                }
            }
        }
        return -1;
    }

    int imbalance() { s(); return 0; }
    int writeRow(int row) { return write(row(row)); }

    int writeCard(int card) {
        at(card);
        StringBuilder text = new StringBuilder();
        for (int h = 0; h < loom.harnesses; h++) {
            text.append(lifts(card, h) ? 'o' : '.');
        }
        return write(text + " " + (char) ('a' + cardColour(card)));
    }

    int writeDeck() { s(); return write(loom.deck.isEmpty() ? "-" : textOf(loom.deck)); }
    int outputByte(int index) { index(index, output.length()); return output.charAt(index); }

    int weave(int picks) {
        s();
        range(picks, 1, 60);
        State s = change();
        int woven = 0;
        while (woven < picks && obstacle(loom, s) == 0) {
            weaveNext(loom, s);
            woven++;
        }
        return woven;
    }

    int unweave(int rows) {
        s();
        range(rows, 1, rowCount());
        change();
        remove(loom, rows);
        return rowCount();
    }

    int swapCards(int card, int other) {
        at(card);
        at(other);
        java.util.Collections.swap(change().cards, card, other);
        int uses = 0;
        for (int pick : picksOf(loom.deck)) {
            uses += pick == card || pick == other ? 1 : 0;
        }
        return uses;
    }

    boolean punch(int card, int harness) {
        at(card);
        h(harness);
        toggle(change().cards.get(card), harness);
        return lifts(card, harness);
    }

    int setCardColour(int card, int colour) {
        at(card);
        range(colour, 0, 5);
        change();
        int previous = cardColour(card);
        at(card).colour = colour;
        return previous;
    }

    int bringYarn(int colour, int amount) {
        s();
        range(colour, 0, 5);
        range(amount, 1, 999);
        change();
        return s().yarn[colour] += amount;
    }

    int oil(int harness) {
        h(harness);
        change();
        int before = wear(harness);
        s().wear[harness] = 0;
        s().stuck[harness] = false;
        return before;
    }

    int mend(int warp) {
        w(warp);
        range(isBroken(warp) ? 1 : 0, 1, 1);
        change().broken.set(warp, false);
        return brokenCount();
    }

    int undo() {
        if (history.isEmpty()) {
            throw new IllegalStateException();
        }
        loom.state = history.remove(history.size() - 1);
        return history.size();
    }

    int undoCount() { return history.size(); }

    int saveState(int slot) {
        s();
        index(slot, 2);
        slots[slot] = s().copy();
        return rowCount();
    }

    int restoreState(int slot) {
        index(slot, 2);
        if (slots[slot] == null) {
            throw new IllegalStateException();
        }
        loom.state = slots[slot].copy();
        history.clear();
        return rowCount();
    }
}
