import java.util.Arrays;

/** A simulator of a loom that weaves by a deck of punched cards. */
public final class CardLoom {
    public static final int NONE = -1;
    public static final int SYNTAX_ERROR = 1;
    public static final int RANGE_ERROR = 2;
    public static final int CONFLICT_ERROR = 3;
    public static final int LIMIT_ERROR = 4;

    private static final int MIN_HARNESSES = 2;
    private static final int MAX_HARNESSES = 8;
    private static final int MAX_WARPS = 24;
    private static final int MAX_CARDS = 12;
    private static final int MAX_PICKS = 100;
    private static final int MAX_NESTING = 3;
    private static final int MAX_COUNT = 20;
    private static final int MAX_ROWS = 60;
    private static final int MAX_WEAR_LIMIT = 200;
    private static final int MAX_STRENGTH = 24;
    private static final int MAX_AMOUNT = 999;
    private static final int COLOURS = 6;
    private static final int MAX_BYTES = 500;
    private static final int BYTES_OF_APPEND = 20;
    private static final int MAX_UNDO = 8;
    private static final int SLOTS = 2;

    private final Parser parser = new Parser();
    private final Output output = new Output();
    private final History history = new History();
    private final Slot firstSlot = new Slot();
    private final Slot secondSlot = new Slot();
    private Loom loom = new Loom();
    private boolean loaded = false;

    public CardLoom() {
    }

    // ---- input buffer and setup

    public int append(int a, int b, int c, int d, int e) {
        Input input = parser.input;
        if (input.size > MAX_BYTES - BYTES_OF_APPEND) {
            return NONE;
        }
        input.addFourBytes(a);
        input.addFourBytes(b);
        input.addFourBytes(c);
        input.addFourBytes(d);
        input.addFourBytes(e);
        return input.size;
    }

    public int parseSetup(int length) throws IndexOutOfBoundsException, IllegalArgumentException {
        if (length < 0 || length > parser.input.size) {
            throw new IndexOutOfBoundsException("the buffer does not hold as many bytes");
        }
        if (!parser.parse(length)) {
            throw new IllegalArgumentException("the setup is invalid");
        }
        Loom parsed = parser.loom;
        parser.loom = loom;
        loom = parsed;
        loaded = true;
        history.forgetAll();
        firstSlot.used = false;
        secondSlot.used = false;
        return loom.deck.length;
    }

    public int parseErrorCode() {
        return parser.errorCode;
    }

    public int parseErrorPosition() {
        return parser.errorPosition;
    }

    public int bufferLength() {
        return parser.input.size;
    }

    // ---- harnesses and warps

    public int harnessCount() throws IllegalStateException {
        requireLoaded();
        return loom.harnesses;
    }

    public int warpCount() throws IllegalStateException {
        requireLoaded();
        return loom.warps;
    }

    public int warpHarness(int warp) throws IllegalStateException, IndexOutOfBoundsException {
        requireWarp(warp);
        return at(loom.harnessOfWarp, warp);
    }

    public int warpColour(int warp) throws IllegalStateException, IndexOutOfBoundsException {
        requireWarp(warp);
        return at(loom.colourOfWarp, warp);
    }

    public int warpsOn(int harness) throws IllegalStateException, IndexOutOfBoundsException {
        requireHarness(harness);
        return Integer.bitCount(loom.warpsOfHarnesses(1 << harness));
    }

    public boolean isBroken(int warp) throws IllegalStateException, IndexOutOfBoundsException {
        requireWarp(warp);
        return has(loom.now.broken, warp);
    }

    public int brokenCount() throws IllegalStateException {
        requireLoaded();
        return Integer.bitCount(loom.now.broken);
    }

    public boolean isLifted(int harness) throws IllegalStateException, IndexOutOfBoundsException {
        requireHarness(harness);
        return has(loom.now.lifted, harness);
    }

    public int wear(int harness) throws IllegalStateException, IndexOutOfBoundsException {
        requireHarness(harness);
        return at(loom.now.wears, harness);
    }

    public boolean isStuck(int harness) throws IllegalStateException, IndexOutOfBoundsException {
        requireHarness(harness);
        return has(loom.now.stuck, harness);
    }

    // ---- cards

    public int cardCount() throws IllegalStateException {
        requireLoaded();
        return loom.cards;
    }

    public boolean lifts(int card, int harness) throws IllegalStateException, IndexOutOfBoundsException {
        requireCard(card);
        requireHarness(harness);
        return has(at(loom.now.cardLifts, card), harness);
    }

    public int cardColour(int card) throws IllegalStateException, IndexOutOfBoundsException {
        requireCard(card);
        return at(loom.now.cardColours, card);
    }

    public int liftedWarps(int card) throws IllegalStateException, IndexOutOfBoundsException {
        requireCard(card);
        return Integer.bitCount(loom.warpsOfHarnesses(at(loom.now.cardLifts, card)));
    }

    public int liftDistance(int card, int other) throws IllegalStateException, IndexOutOfBoundsException {
        requireCard(card);
        requireCard(other);
        return Integer.bitCount(at(loom.now.cardLifts, card) ^ at(loom.now.cardLifts, other));
    }

    public int oppositeCard(int card) throws IllegalStateException, IndexOutOfBoundsException {
        requireCard(card);
        int wanted = loom.otherHarnesses(at(loom.now.cardLifts, card));
        for (int other = 0; other < loom.cards; other++) {
            if (at(loom.now.cardLifts, other) == wanted) {
                return other;
            }
        }
        return NONE;
    }

    // ---- the deck

    public int deckLength() throws IllegalStateException {
        requireLoaded();
        return loom.deck.length;
    }

    public int deckCard(int pick) throws IllegalStateException, IndexOutOfBoundsException {
        requireLoaded();
        requireIndex(pick, loom.deck.length);
        return at(loom.deck.picks, pick);
    }

    public int cardUses(int card) throws IllegalStateException, IndexOutOfBoundsException {
        requireCard(card);
        return loom.deck.countPicks(card);
    }

    public int deckDepth() throws IllegalStateException {
        requireLoaded();
        return loom.deck.depth;
    }

    public int deckPeriod() throws IllegalStateException {
        requireLoaded();
        return loom.deck.leastPeriod();
    }

    public boolean isPalindrome() throws IllegalStateException {
        requireLoaded();
        return loom.deck.readsSameBackwards();
    }

    // ---- the cloth

    public int rowCount() throws IllegalStateException {
        requireLoaded();
        return loom.now.rows;
    }

    public int cellColour(int row, int warp) throws IllegalStateException, IndexOutOfBoundsException {
        requireRow(row);
        requireWarp(warp);
        return loom.colourOfCell(row, warp);
    }

    public boolean showsWarp(int row, int warp) throws IllegalStateException, IndexOutOfBoundsException {
        requireRow(row);
        requireWarp(warp);
        return has(at(loom.now.rowShown, row), warp);
    }

    public int longestWarpFloat(int warp) throws IllegalStateException, IndexOutOfBoundsException {
        requireWarp(warp);
        return loom.longestRunOfWarp(warp);
    }

    public int longestWeftFloat(int row) throws IllegalStateException, IndexOutOfBoundsException {
        requireRow(row);
        return loom.longestRunOfWeft(row);
    }

    public int cellsOfColour(int colour) throws IllegalStateException, IllegalArgumentException {
        requireColour(colour);
        return loom.countCells(colour);
    }

    public int rowPeriod() throws IllegalStateException {
        requireLoaded();
        return loom.leastRowDistance();
    }

    public float warpShare() throws IllegalStateException {
        requireLoaded();
        int cells = loom.cellCount();
        if (cells <= 0) {
            return 0.0f;
        }
        return (float) loom.countShown() / (float) cells;
    }

    public double averageLifts() throws IllegalStateException {
        requireLoaded();
        int cards = loom.cards;
        if (cards <= 0) {
            return 0.0;
        }
        int sum = 0;
        for (int card = 0; card < cards; card++) {
            sum += Integer.bitCount(at(loom.now.cardLifts, card));
        }
        return (double) sum / (double) cards;
    }

    // ---- checks of the cloth

    public boolean isWrong(int row) throws IllegalStateException, IndexOutOfBoundsException {
        requireRow(row);
        return loom.differsFromDesign(row);
    }

    public int wrongCount() throws IllegalStateException {
        requireLoaded();
        return loom.countWrong();
    }

    public int firstWrongRow() throws IllegalStateException {
        requireLoaded();
        return loom.firstWrong();
    }

    public int swapFirst() throws IllegalStateException {
        requireLoaded();
        int pair = loom.suspectedPair();
        return pair == NONE ? NONE : pair / MAX_CARDS;
    }

    public int swapSecond() throws IllegalStateException {
        requireLoaded();
        int pair = loom.suspectedPair();
        return pair == NONE ? NONE : pair % MAX_CARDS;
    }

    // ---- yarn and predictions

    public int yarn(int colour) throws IllegalStateException, IllegalArgumentException {
        requireColour(colour);
        return at(loom.now.yarns, colour);
    }

    public int yarnNeeded(int colour) throws IllegalStateException, IllegalArgumentException {
        requireColour(colour);
        return loom.yarnToDeckEnd(colour);
    }

    public int nextCard() throws IllegalStateException {
        requireLoaded();
        return loom.deck.cardForRow(loom.now.rows);
    }

    public int weaveObstacle() throws IllegalStateException {
        requireLoaded();
        return loom.obstacle(loom.now);
    }

    public int picksPossible() throws IllegalStateException {
        requireLoaded();
        loom.ahead.copyFrom(loom.now);
        return loom.weaveUpTo(loom.ahead, MAX_ROWS);
    }

    public int picksUntilStuck() throws IllegalStateException {
        requireLoaded();
        loom.ahead.copyFrom(loom.now);
        for (int picks = 1; picks <= MAX_ROWS; picks++) {
            if (loom.weaveUpTo(loom.ahead, 1) == 0) {
                return NONE;
            }
            if (loom.ahead.stuck != loom.now.stuck) {
                return picks;
            }
        }
        return NONE;
    }

    public int imbalance() throws IllegalStateException {
        requireLoaded();
        int difference = loom.now.yarnOfAllColours() + loom.cellCount() - loom.now.brought;
        int wrong = loom.now.disturbed ? 0 : loom.countWrong();
        return Math.abs(difference) + wrong;
    }

    // ---- text output

    public int writeRow(int row) throws IllegalStateException, IndexOutOfBoundsException {
        requireRow(row);
        output.length = 0;
        for (int warp = 0; warp < loom.warps; warp++) {
            boolean capital = has(at(loom.now.rowShown, row), warp);
            output.add((capital ? 'A' : 'a') + loom.colourOfCell(row, warp));
        }
        return output.length;
    }

    public int writeCard(int card) throws IllegalStateException, IndexOutOfBoundsException {
        requireCard(card);
        output.length = 0;
        for (int harness = 0; harness < loom.harnesses; harness++) {
            output.add(has(at(loom.now.cardLifts, card), harness) ? 'o' : '.');
        }
        output.add(' ');
        output.add('a' + at(loom.now.cardColours, card));
        return output.length;
    }

    public int writeDeck() throws IllegalStateException {
        requireLoaded();
        output.length = 0;
        output.addDeck(loom.deck);
        return output.length;
    }

    public int outputByte(int index) throws IndexOutOfBoundsException {
        requireIndex(index, output.length);
        return at(output.bytes, index);
    }

    // ---- changes; each one can be undone

    public int weave(int picks) throws IllegalStateException, IllegalArgumentException {
        requireLoaded();
        requireRange(picks, 1, MAX_ROWS);
        history.remember(loom.now);
        return loom.weaveUpTo(loom.now, picks);
    }

    public int unweave(int rows) throws IllegalStateException, IllegalArgumentException {
        requireLoaded();
        requireRange(rows, 1, loom.now.rows);
        history.remember(loom.now);
        loom.removeRows(rows);
        return loom.now.rows;
    }

    public int swapCards(int card, int other) throws IllegalStateException, IndexOutOfBoundsException {
        requireCard(card);
        requireCard(other);
        history.remember(loom.now);
        loom.now.exchangeCards(card, other);
        int uses = loom.deck.countPicks(card);
        return card == other ? uses : uses + loom.deck.countPicks(other);
    }

    public boolean punch(int card, int harness) throws IllegalStateException, IndexOutOfBoundsException {
        requireCard(card);
        requireHarness(harness);
        history.remember(loom.now);
        loom.now.punchCard(card, harness);
        return has(at(loom.now.cardLifts, card), harness);
    }

    public int setCardColour(int card, int colour)
            throws IllegalStateException, IndexOutOfBoundsException, IllegalArgumentException {
        requireCard(card);
        requireColour(colour);
        history.remember(loom.now);
        int previous = at(loom.now.cardColours, card);
        loom.now.changeColour(card, colour);
        return previous;
    }

    public int bringYarn(int colour, int amount) throws IllegalStateException, IllegalArgumentException {
        requireColour(colour);
        requireRange(amount, 1, MAX_AMOUNT);
        history.remember(loom.now);
        loom.now.bring(colour, amount);
        return at(loom.now.yarns, colour);
    }

    public int oil(int harness) throws IllegalStateException, IndexOutOfBoundsException {
        requireHarness(harness);
        history.remember(loom.now);
        int before = at(loom.now.wears, harness);
        loom.now.oilHarness(harness);
        return before;
    }

    public int mend(int warp) throws IllegalStateException, IndexOutOfBoundsException, IllegalArgumentException {
        requireWarp(warp);
        if (!has(loom.now.broken, warp)) {
            throw new IllegalArgumentException("the warp is not broken");
        }
        history.remember(loom.now);
        loom.now.mendWarp(warp);
        return Integer.bitCount(loom.now.broken);
    }

    public int undo() throws IllegalStateException {
        if (!history.bringBack(loom.now)) {
            throw new IllegalStateException("there is nothing to undo");
        }
        return history.count;
    }

    public int undoCount() {
        return history.count;
    }

    public int saveState(int slot) throws IllegalStateException, IndexOutOfBoundsException {
        requireLoaded();
        requireIndex(slot, SLOTS);
        Slot chosen = slot == 0 ? firstSlot : secondSlot;
        chosen.state.copyFrom(loom.now);
        chosen.used = true;
        return loom.now.rows;
    }

    public int restoreState(int slot) throws IndexOutOfBoundsException, IllegalStateException {
        requireIndex(slot, SLOTS);
        Slot chosen = slot == 0 ? firstSlot : secondSlot;
        if (!chosen.used) {
            throw new IllegalStateException("no state is saved in the slot");
        }
        loom.now.copyFrom(chosen.state);
        history.forgetAll();
        return loom.now.rows;
    }

    // ---- tests of what a call is given

    private void requireLoaded() {
        if (!loaded) {
            throw new IllegalStateException("no setup has been loaded");
        }
    }

    private void requireWarp(int warp) {
        requireLoaded();
        requireIndex(warp, loom.warps);
    }

    private void requireHarness(int harness) {
        requireLoaded();
        requireIndex(harness, loom.harnesses);
    }

    private void requireCard(int card) {
        requireLoaded();
        requireIndex(card, loom.cards);
    }

    private void requireRow(int row) {
        requireLoaded();
        requireIndex(row, loom.now.rows);
    }

    private void requireColour(int colour) {
        requireLoaded();
        requireRange(colour, 0, COLOURS - 1);
    }

    private static void requireIndex(int index, int count) {
        if (index < 0 || index >= count) {
            throw new IndexOutOfBoundsException("there is none with this index");
        }
    }

    private static void requireRange(int number, int least, int greatest) {
        if (number < least || number > greatest) {
            throw new IllegalArgumentException("the argument is out of range");
        }
    }

    // ---- rows of numbers, and sets as the bits of a number

    // Every index goes through these two, so that none can make the machine throw.
    private static int at(int[] numbers, int index) {
        return index >= 0 && index < numbers.length ? numbers[index] : 0;
    }

    private static void put(int[] numbers, int index, int number) {
        if (index >= 0 && index < numbers.length) {
            numbers[index] = number;
        }
    }

    private static void copy(int[] from, int[] to) {
        System.arraycopy(from, 0, to, 0, Math.min(from.length, to.length));
    }

    private static boolean has(int set, int member) {
        return (set >> member & 1) != 0;
    }

    /** All that calls can change after the setup, and that undoing and restoring bring back. */
    private static final class State {
        int lifted = 0;
        int stuck = 0;
        int broken = 0;
        int rows = 0;
        int brought = 0;
        // A card has been changed, a harness has been stuck, or a warp has been broken.
        boolean disturbed = false;
        final int[] wears = new int[MAX_HARNESSES];
        final int[] yarns = new int[COLOURS];
        final int[] cardLifts = new int[MAX_CARDS];
        final int[] cardColours = new int[MAX_CARDS];
        final int[] rowShown = new int[MAX_ROWS];
        final int[] rowWefts = new int[MAX_ROWS];

        void clear() {
            lifted = 0;
            stuck = 0;
            broken = 0;
            rows = 0;
            brought = 0;
            disturbed = false;
            Arrays.fill(wears, 0);
            Arrays.fill(yarns, 0);
        }

        void copyFrom(State other) {
            lifted = other.lifted;
            stuck = other.stuck;
            broken = other.broken;
            rows = other.rows;
            brought = other.brought;
            disturbed = other.disturbed;
            copy(other.wears, wears);
            copy(other.yarns, yarns);
            copy(other.cardLifts, cardLifts);
            copy(other.cardColours, cardColours);
            copy(other.rowShown, rowShown);
            copy(other.rowWefts, rowWefts);
        }

        void changeLifts(int card, int lifts) {
            put(cardLifts, card, lifts);
            disturbed = true;
        }

        void punchCard(int card, int harness) {
            changeLifts(card, at(cardLifts, card) ^ 1 << harness);
        }

        void changeColour(int card, int colour) {
            put(cardColours, card, colour);
            disturbed = true;
        }

        void exchangeCards(int card, int other) {
            int lifts = at(cardLifts, card);
            int colour = at(cardColours, card);
            changeLifts(card, at(cardLifts, other));
            changeColour(card, at(cardColours, other));
            changeLifts(other, lifts);
            changeColour(other, colour);
        }

        void addYarn(int colour, int amount) {
            put(yarns, colour, at(yarns, colour) + amount);
        }

        void bring(int colour, int amount) {
            addYarn(colour, amount);
            brought += amount;
        }

        int yarnOfAllColours() {
            int sum = 0;
            for (int colour = 0; colour < COLOURS; colour++) {
                sum += at(yarns, colour);
            }
            return sum;
        }

        void oilHarness(int harness) {
            put(wears, harness, 0);
            stuck &= ~(1 << harness);
        }

        void mendWarp(int warp) {
            broken &= ~(1 << warp);
        }

        void addRow(int shown, int weft) {
            put(rowShown, rows, shown);
            put(rowWefts, rows, weft);
            rows++;
        }
    }

    /** A place for a saved state. */
    private static final class Slot {
        final State state = new State();
        boolean used = false;
    }

    /** The states before the latest changes, in a ring. */
    private static final class History {
        final State[] states = new State[MAX_UNDO];
        int next = 0;
        int count = 0;

        History() {
            for (int i = 0; i < states.length; i++) {
                states[i] = new State();
            }
        }

        void forgetAll() {
            count = 0;
        }

        void remember(State now) {
            State kept = stateAt(next);
            if (kept == null) {
                return;
            }
            kept.copyFrom(now);
            next = (next + 1) % MAX_UNDO;
            count = Math.min(count + 1, MAX_UNDO);
        }

        boolean bringBack(State now) {
            int latest = (next + MAX_UNDO - 1) % MAX_UNDO;
            State kept = stateAt(latest);
            if (count == 0 || kept == null) {
                return false;
            }
            now.copyFrom(kept);
            next = latest;
            count--;
            return true;
        }

        private State stateAt(int index) {
            return index >= 0 && index < states.length ? states[index] : null;
        }
    }

    /** The parts of the deck as written, and the picks that they give. */
    private static final class Deck {
        // The codes of parts beside the cards, which stand by their indices.
        static final int CLOSED = 100;
        static final int MIRROR = 101;
        static final int BACK = 102;
        static final int REPEAT = 200;

        final int[] parts = new int[MAX_BYTES];
        int partCount = 0;
        // While brackets are open, the picks of their lists stand behind those of the lists that contain them.
        final int[] picks = new int[MAX_PICKS * (MAX_NESTING + 1)];
        int length = 0;
        int depth = 0;
        final int[] openCodes = new int[MAX_NESTING];
        final int[] openStarts = new int[MAX_NESTING];
        int openCount = 0;

        void clear() {
            partCount = 0;
            length = 0;
            depth = 0;
            openCount = 0;
        }

        static boolean isOpening(int code) {
            return code == MIRROR || code == BACK || code >= REPEAT;
        }

        boolean isNestingFull() {
            return openCount >= MAX_NESTING;
        }

        boolean addCard(int card) {
            if (length - startOfList(openCount) >= MAX_PICKS) {
                return false;
            }
            addPart(card);
            put(picks, length, card);
            length++;
            depth = Math.max(depth, 1);
            return true;
        }

        void openPart(int code) {
            addPart(code);
            put(openCodes, openCount, code);
            put(openStarts, openCount, length);
            openCount++;
            depth = Math.max(depth, openCount + 1);
        }

        boolean closePart() {
            int start = startOfList(openCount);
            int code = at(openCodes, openCount - 1);
            int outerPicks = start - startOfList(openCount - 1);
            // The part is in the list that contains it: if the list is short enough, the part is.
            if (outerPicks + picksWhenClosed(code, length - start) > MAX_PICKS) {
                return false;
            }
            if (code == MIRROR) {
                mirrorPicks(start, length - 2);
            } else if (code == BACK) {
                reversePicks(start, length - 1);
            } else {
                repeatPicks(start, (length - start) * (code - REPEAT - 1));
            }
            addPart(CLOSED);
            openCount--;
            return true;
        }

        private int startOfList(int brackets) {
            return brackets <= 0 ? 0 : at(openStarts, brackets - 1);
        }

        private static int picksWhenClosed(int code, int picksOfList) {
            if (code == MIRROR) {
                return 2 * picksOfList - 1;
            }
            return code == BACK ? picksOfList : picksOfList * (code - REPEAT);
        }

        private void mirrorPicks(int first, int last) {
            for (int i = last; i >= first; i--) {
                put(picks, length, at(picks, i));
                length++;
            }
        }

        private void reversePicks(int first, int last) {
            int back = last;
            for (int i = first; i < back; i++) {
                int card = at(picks, i);
                put(picks, i, at(picks, back));
                put(picks, back, card);
                back--;
            }
        }

        private void repeatPicks(int first, int added) {
            for (int i = 0; i < added; i++) {
                put(picks, length, at(picks, first + i));
                length++;
            }
        }

        private void addPart(int code) {
            put(parts, partCount, code);
            partCount++;
        }

        int cardForRow(int row) {
            return length <= 0 ? NONE : at(picks, row % length);
        }

        int countPicks(int card) {
            int count = 0;
            for (int pick = 0; pick < length; pick++) {
                if (at(picks, pick) == card) {
                    count++;
                }
            }
            return count;
        }

        int leastPeriod() {
            for (int period = 1; period <= length; period++) {
                if (length % period == 0 && repeatsAfter(period)) {
                    return period;
                }
            }
            return 0;
        }

        private boolean repeatsAfter(int period) {
            for (int pick = period; pick < length; pick++) {
                if (at(picks, pick) != at(picks, pick - period)) {
                    return false;
                }
            }
            return true;
        }

        boolean readsSameBackwards() {
            for (int pick = 0; pick < length; pick++) {
                if (at(picks, pick) != at(picks, length - 1 - pick)) {
                    return false;
                }
            }
            return true;
        }
    }

    /** A loom: what its setup fixed, and its state. */
    private static final class Loom {
        int harnesses = 0;
        int wearLimit = 0;
        int strain = 0;
        int motor = MAX_STRENGTH;
        int warps = 0;
        final int[] harnessOfWarp = new int[MAX_WARPS];
        final int[] colourOfWarp = new int[MAX_WARPS];
        int cards = 0;
        final int[] designLifts = new int[MAX_CARDS];
        final int[] designColours = new int[MAX_CARDS];
        final Deck deck = new Deck();
        final State now = new State();
        // Predictions weave here, so that they leave the state alone.
        final State ahead = new State();

        void clear() {
            harnesses = 0;
            wearLimit = 0;
            strain = 0;
            motor = MAX_STRENGTH;
            warps = 0;
            cards = 0;
            deck.clear();
            now.clear();
        }

        boolean addWarp(int harness, int colour) {
            if (warps >= MAX_WARPS) {
                return false;
            }
            put(harnessOfWarp, warps, harness);
            put(colourOfWarp, warps, colour);
            warps++;
            return true;
        }

        void addCard(int lifts, int colour) {
            put(designLifts, cards, lifts);
            put(designColours, cards, colour);
            put(now.cardLifts, cards, lifts);
            put(now.cardColours, cards, colour);
            cards++;
        }

        int otherHarnesses(int set) {
            return (1 << harnesses) - 1 & ~set;
        }

        int warpsOfHarnesses(int set) {
            int found = 0;
            for (int warp = 0; warp < warps; warp++) {
                if (has(set, at(harnessOfWarp, warp))) {
                    found |= 1 << warp;
                }
            }
            return found;
        }

        int obstacle(State state) {
            if (deck.length == 0) {
                return 1;
            }
            if (state.rows >= MAX_ROWS) {
                return 2;
            }
            int card = deck.cardForRow(state.rows);
            if (at(state.yarns, at(state.cardColours, card)) < warps) {
                return 3;
            }
            int load = Integer.bitCount(warpsOfHarnesses(at(state.cardLifts, card)));
            return load > motor ? 4 : 0;
        }

        int weaveUpTo(State state, int picks) {
            int woven = 0;
            while (woven < picks && obstacle(state) == 0) {
                weaveNext(state);
                woven++;
            }
            return woven;
        }

        private void weaveNext(State state) {
            int card = deck.cardForRow(state.rows);
            int weft = at(state.cardColours, card);
            state.addYarn(weft, -warps);
            moveHarnesses(state, at(state.cardLifts, card));
            state.addRow(warpsOfHarnesses(state.lifted) & ~state.broken, weft);
            breakWarps(state);
        }

        private void moveHarnesses(State state, int lifts) {
            int moving = (state.lifted ^ lifts) & ~state.stuck;
            state.lifted ^= moving;
            for (int harness = 0; harness < harnesses; harness++) {
                if (has(moving, harness)) {
                    int wear = at(state.wears, harness) + 1;
                    put(state.wears, harness, wear);
                    if (wear == wearLimit) {
                        state.stuck |= 1 << harness;
                        state.disturbed = true;
                    }
                }
            }
        }

        private void breakWarps(State state) {
            if (strain == 0 || state.rows < strain) {
                return;
            }
            int strained = at(state.rowShown, state.rows - 1);
            for (int row = state.rows - strain; row < state.rows; row++) {
                strained &= at(state.rowShown, row);
            }
            if (strained != 0) {
                state.broken |= strained;
                state.disturbed = true;
            }
        }

        void removeRows(int count) {
            for (int i = 0; i < count && now.rows > 0; i++) {
                now.rows--;
                now.addYarn(at(now.rowWefts, now.rows), warps);
            }
        }

        int cellCount() {
            return now.rows * warps;
        }

        int colourOfCell(int row, int warp) {
            return has(at(now.rowShown, row), warp) ? at(colourOfWarp, warp) : at(now.rowWefts, row);
        }

        int countShown() {
            int count = 0;
            for (int row = 0; row < now.rows; row++) {
                count += Integer.bitCount(at(now.rowShown, row));
            }
            return count;
        }

        int countCells(int colour) {
            int count = 0;
            for (int row = 0; row < now.rows; row++) {
                for (int warp = 0; warp < warps; warp++) {
                    if (colourOfCell(row, warp) == colour) {
                        count++;
                    }
                }
            }
            return count;
        }

        int longestRunOfWarp(int warp) {
            int longest = 0;
            int run = 0;
            for (int row = 0; row < now.rows; row++) {
                run = has(at(now.rowShown, row), warp) ? run + 1 : 0;
                longest = Math.max(longest, run);
            }
            return longest;
        }

        int longestRunOfWeft(int row) {
            int longest = 0;
            int run = 0;
            for (int warp = 0; warp < warps; warp++) {
                run = has(at(now.rowShown, row), warp) ? 0 : run + 1;
                longest = Math.max(longest, run);
            }
            return longest;
        }

        int leastRowDistance() {
            for (int distance = 1; distance < now.rows; distance++) {
                if (coloursRepeatAfter(distance)) {
                    return distance;
                }
            }
            return now.rows;
        }

        private boolean coloursRepeatAfter(int distance) {
            for (int row = distance; row < now.rows; row++) {
                for (int warp = 0; warp < warps; warp++) {
                    if (colourOfCell(row, warp) != colourOfCell(row - distance, warp)) {
                        return false;
                    }
                }
            }
            return true;
        }

        boolean differsFromDesign(int row) {
            return !equalsDesign(row, deck.cardForRow(row));
        }

        private boolean equalsDesign(int row, int card) {
            int shown = at(now.rowShown, row);
            if (shown != warpsOfHarnesses(at(designLifts, card))) {
                return false;
            }
            // Where no cell shows the weft, its colour can't be seen.
            boolean hidesWeft = Integer.bitCount(shown) == warps;
            return hidesWeft || at(now.rowWefts, row) == at(designColours, card);
        }

        int countWrong() {
            int count = 0;
            for (int row = 0; row < now.rows; row++) {
                if (differsFromDesign(row)) {
                    count++;
                }
            }
            return count;
        }

        int firstWrong() {
            for (int row = 0; row < now.rows; row++) {
                if (differsFromDesign(row)) {
                    return row;
                }
            }
            return NONE;
        }

        /** Tells both cards in one number: the first times MAX_CARDS, plus the second. */
        int suspectedPair() {
            if (firstWrong() == NONE) {
                return NONE;
            }
            for (int card = 0; card < cards; card++) {
                for (int other = card + 1; other < cards; other++) {
                    if (exchangeExplainsCloth(card, other)) {
                        return card * MAX_CARDS + other;
                    }
                }
            }
            return NONE;
        }

        private boolean exchangeExplainsCloth(int card, int other) {
            for (int row = 0; row < now.rows; row++) {
                int picked = deck.cardForRow(row);
                if (picked == card) {
                    picked = other;
                } else if (picked == other) {
                    picked = card;
                }
                if (!equalsDesign(row, picked)) {
                    return false;
                }
            }
            return true;
        }

        int yarnToDeckEnd(int colour) {
            if (deck.length <= 0) {
                return 0;
            }
            int needed = 0;
            for (int pick = now.rows % deck.length; pick < deck.length; pick++) {
                if (at(now.cardColours, at(deck.picks, pick)) == colour) {
                    needed += warps;
                }
            }
            return needed;
        }
    }

    /** The output, and how parts of a deck are written to it. */
    private static final class Output {
        final int[] bytes = new int[MAX_BYTES];
        int length = 0;

        void add(int letter) {
            if (length < bytes.length) {
                put(bytes, length, letter);
                length++;
            }
        }

        void addDeck(Deck deck) {
            if (deck.partCount == 0) {
                add('-');
            }
            boolean atListStart = true;
            for (int i = 0; i < deck.partCount; i++) {
                int code = at(deck.parts, i);
                if (!atListStart && code != Deck.CLOSED) {
                    add(' ');
                }
                addPart(code);
                atListStart = Deck.isOpening(code);
            }
        }

        private void addPart(int code) {
            if (code == Deck.CLOSED) {
                add(')');
            } else if (Deck.isOpening(code)) {
                addOpening(code);
            } else {
                addNumber(code);
            }
        }

        private void addOpening(int code) {
            if (code == Deck.MIRROR) {
                add('m');
            } else if (code == Deck.BACK) {
                add('b');
            } else {
                add('r');
                addNumber(code - Deck.REPEAT);
            }
            add('(');
        }

        private void addNumber(int number) {
            if (number >= 10) {
                add('0' + number / 10);
            }
            add('0' + number % 10);
        }
    }

    /** The input buffer, read token by token. */
    private static final class Input {
        static final int END = 0;
        static final int WORD = 1;
        static final int NUMBER = 2;
        static final int SEMICOLON = 3;
        static final int OPENING = 4;
        static final int CLOSING = 5;
        static final int BAD = 6;
        static final int MAX_LETTERS = 7;
        static final int MAX_DIGITS = 3;

        final int[] bytes = new int[MAX_BYTES];
        int size = 0;
        int limit = 0;
        int next = 0;
        int kind = END;
        int start = 0;
        int value = 0;

        void addFourBytes(int four) {
            for (int shift = 24; shift >= 0; shift -= 8) {
                put(bytes, size, four >> shift & 255);
                size++;
            }
        }

        void startReading(int length) {
            limit = Math.min(length, bytes.length);
            next = 0;
            advance();
        }

        void advance() {
            while (next < limit && at(bytes, next) == ' ') {
                next++;
            }
            start = next;
            if (next >= limit) {
                kind = END;
            } else if (isLetter(at(bytes, next))) {
                readWord();
            } else if (isDigit(at(bytes, next))) {
                readNumber();
            } else {
                kind = kindOfSign(at(bytes, next));
                next++;
            }
        }

        private void readWord() {
            while (next < limit && isLetter(at(bytes, next))) {
                next++;
            }
            kind = next - start > MAX_LETTERS ? BAD : WORD;
        }

        private void readNumber() {
            value = 0;
            while (next < limit && isDigit(at(bytes, next))) {
                value = value * 10 + at(bytes, next) - '0';
                next++;
            }
            kind = next - start > MAX_DIGITS ? BAD : NUMBER;
        }

        private static boolean isLetter(int letter) {
            return letter >= 'a' && letter <= 'z';
        }

        private static boolean isDigit(int letter) {
            return letter >= '0' && letter <= '9';
        }

        private static int kindOfSign(int sign) {
            switch (sign) {
                case ';':
                    return SEMICOLON;
                case '(':
                    return OPENING;
                case ')':
                    return CLOSING;
                default:
                    return BAD;
            }
        }

        boolean isWord(String word) {
            if (kind != WORD || next - start != word.length()) {
                return false;
            }
            for (int i = 0; i < word.length(); i++) {
                if (at(bytes, start + i) != word.charAt(i)) {
                    return false;
                }
            }
            return true;
        }

        /** The colour that the token is the letter of, or NONE. */
        int colour() {
            if (kind != WORD || next - start != 1) {
                return NONE;
            }
            int colour = at(bytes, start) - 'a';
            return colour < COLOURS ? colour : NONE;
        }
    }

    /** Reads a setup into a loom, and keeps the error of the latest one. */
    private static final class Parser {
        final Input input = new Input();
        Loom loom = new Loom();
        int errorCode = 0;
        int errorPosition = NONE;
        private int number = 0;

        boolean parse(int length) {
            errorCode = 0;
            errorPosition = NONE;
            loom.clear();
            input.size = 0;
            input.startReading(length);
            if (!readHeader()) {
                return false;
            }
            for (int i = 0; i < MAX_BYTES && input.kind != Input.END; i++) {
                if (input.kind != Input.SEMICOLON) {
                    return fail(SYNTAX_ERROR);
                }
                input.advance();
                if (!readItem()) {
                    return false;
                }
            }
            return loom.warps > 0 || fail(LIMIT_ERROR);
        }

        private boolean fail(int code) {
            errorCode = code;
            errorPosition = input.start;
            return false;
        }

        /** Tests the token, but stays at it, so that further errors of it can be told. */
        private boolean seeNumber(int least, int greatest) {
            if (input.kind != Input.NUMBER) {
                return fail(SYNTAX_ERROR);
            }
            number = input.value;
            return number >= least && number <= greatest || fail(RANGE_ERROR);
        }

        private boolean takeNumber(int least, int greatest) {
            if (!seeNumber(least, greatest)) {
                return false;
            }
            input.advance();
            return true;
        }

        private boolean seeCard() {
            return seeNumber(0, loom.cards - 1);
        }

        private boolean takeCard() {
            if (!seeCard()) {
                return false;
            }
            input.advance();
            return true;
        }

        private boolean seeHarness() {
            return seeNumber(0, loom.harnesses - 1);
        }

        private boolean takeHarness() {
            if (!seeHarness()) {
                return false;
            }
            input.advance();
            return true;
        }

        private boolean takeColour() {
            number = input.colour();
            if (number == NONE) {
                return fail(SYNTAX_ERROR);
            }
            input.advance();
            return true;
        }

        private boolean readHeader() {
            if (!input.isWord("loom")) {
                return fail(SYNTAX_ERROR);
            }
            input.advance();
            if (!takeNumber(MIN_HARNESSES, MAX_HARNESSES)) {
                return false;
            }
            loom.harnesses = number;
            if (!takeNumber(1, MAX_WEAR_LIMIT)) {
                return false;
            }
            loom.wearLimit = number;
            return true;
        }

        private boolean readItem() {
            if (input.isWord("warp")) {
                return readWarps();
            }
            if (input.isWord("card")) {
                return readCard();
            }
            if (input.isWord("deck")) {
                return readDeck();
            }
            if (input.isWord("yarn")) {
                return readYarn();
            }
            if (input.isWord("weave")) {
                return readWeave();
            }
            if (input.isWord("unweave")) {
                return readUnweave();
            }
            if (input.isWord("swap")) {
                return readSwap();
            }
            if (input.isWord("punch")) {
                return readPunch();
            }
            if (input.isWord("dye")) {
                return readDye();
            }
            if (input.isWord("oil")) {
                return readOil();
            }
            if (input.isWord("invert")) {
                return readInvert();
            }
            if (input.isWord("strain")) {
                return readStrain();
            }
            if (input.isWord("motor")) {
                return readMotor();
            }
            return input.isWord("mend") ? readMend() : fail(SYNTAX_ERROR);
        }

        private boolean readWarps() {
            if (loom.now.rows > 0) {
                return fail(CONFLICT_ERROR);
            }
            input.advance();
            if (!takeColour()) {
                return false;
            }
            int colour = number;
            for (int i = 0; i < MAX_BYTES && (i == 0 || input.kind == Input.NUMBER); i++) {
                if (!seeHarness()) {
                    return false;
                }
                if (!loom.addWarp(number, colour)) {
                    return fail(LIMIT_ERROR);
                }
                input.advance();
            }
            return true;
        }

        private boolean readCard() {
            if (loom.cards >= MAX_CARDS) {
                return fail(LIMIT_ERROR);
            }
            input.advance();
            if (!takeColour()) {
                return false;
            }
            int colour = number;
            int lifts = 0;
            for (int i = 0; i < MAX_BYTES && input.kind == Input.NUMBER; i++) {
                if (!seeHarness()) {
                    return false;
                }
                if (has(lifts, number)) {
                    return fail(CONFLICT_ERROR);
                }
                lifts |= 1 << number;
                input.advance();
            }
            loom.addCard(lifts, colour);
            return true;
        }

        private boolean readDeck() {
            if (loom.now.rows > 0) {
                return fail(CONFLICT_ERROR);
            }
            input.advance();
            boolean needsPart = true;
            for (int i = 0; i < MAX_BYTES; i++) {
                boolean open = loom.deck.openCount > 0;
                if (input.kind == Input.NUMBER) {
                    if (!readCardOfDeck()) {
                        return false;
                    }
                    needsPart = false;
                } else if (input.isWord("repeat") || input.isWord("mirror") || input.isWord("back")) {
                    if (!readOpening()) {
                        return false;
                    }
                    needsPart = true;
                } else if (input.kind == Input.CLOSING && open && !needsPart) {
                    if (!readClosing()) {
                        return false;
                    }
                } else {
                    return !open && !needsPart || fail(SYNTAX_ERROR);
                }
            }
            return fail(SYNTAX_ERROR);
        }

        private boolean readCardOfDeck() {
            if (!seeCard()) {
                return false;
            }
            if (!loom.deck.addCard(number)) {
                return fail(LIMIT_ERROR);
            }
            input.advance();
            return true;
        }

        private boolean readOpening() {
            if (loom.deck.isNestingFull()) {
                return fail(LIMIT_ERROR);
            }
            boolean repeats = input.isWord("repeat");
            int code = input.isWord("mirror") ? Deck.MIRROR : Deck.BACK;
            input.advance();
            if (repeats) {
                if (!seeNumber(1, MAX_COUNT)) {
                    return false;
                }
                code = Deck.REPEAT + number;
                input.advance();
            }
            if (input.kind != Input.OPENING) {
                return fail(SYNTAX_ERROR);
            }
            loom.deck.openPart(code);
            input.advance();
            return true;
        }

        private boolean readClosing() {
            if (!loom.deck.closePart()) {
                return fail(LIMIT_ERROR);
            }
            input.advance();
            return true;
        }

        private boolean readYarn() {
            input.advance();
            if (!takeColour()) {
                return false;
            }
            int colour = number;
            if (!takeNumber(1, MAX_AMOUNT)) {
                return false;
            }
            loom.now.bring(colour, number);
            return true;
        }

        private boolean readWeave() {
            input.advance();
            if (!seeNumber(1, MAX_ROWS)) {
                return false;
            }
            if (loom.weaveUpTo(loom.now, number) < number) {
                return fail(CONFLICT_ERROR);
            }
            input.advance();
            return true;
        }

        private boolean readUnweave() {
            input.advance();
            if (!seeNumber(1, MAX_ROWS)) {
                return false;
            }
            if (number > loom.now.rows) {
                return fail(CONFLICT_ERROR);
            }
            loom.removeRows(number);
            input.advance();
            return true;
        }

        private boolean readSwap() {
            input.advance();
            if (!takeCard()) {
                return false;
            }
            int card = number;
            if (!seeCard()) {
                return false;
            }
            if (number == card) {
                return fail(CONFLICT_ERROR);
            }
            loom.now.exchangeCards(card, number);
            input.advance();
            return true;
        }

        private boolean readPunch() {
            input.advance();
            if (!takeCard()) {
                return false;
            }
            int card = number;
            if (!takeHarness()) {
                return false;
            }
            loom.now.punchCard(card, number);
            return true;
        }

        private boolean readDye() {
            input.advance();
            if (!takeCard()) {
                return false;
            }
            int card = number;
            if (!takeColour()) {
                return false;
            }
            loom.now.changeColour(card, number);
            return true;
        }

        private boolean readOil() {
            input.advance();
            if (!takeHarness()) {
                return false;
            }
            loom.now.oilHarness(number);
            return true;
        }

        private boolean readInvert() {
            input.advance();
            if (!takeCard()) {
                return false;
            }
            loom.now.changeLifts(number, loom.otherHarnesses(at(loom.now.cardLifts, number)));
            return true;
        }

        private boolean readStrain() {
            input.advance();
            if (!takeNumber(0, MAX_ROWS)) {
                return false;
            }
            loom.strain = number;
            return true;
        }

        private boolean readMotor() {
            input.advance();
            if (!takeNumber(1, MAX_STRENGTH)) {
                return false;
            }
            loom.motor = number;
            return true;
        }

        private boolean readMend() {
            input.advance();
            if (!seeNumber(0, loom.warps - 1)) {
                return false;
            }
            if (!has(loom.now.broken, number)) {
                return fail(CONFLICT_ERROR);
            }
            loom.now.mendWarp(number);
            input.advance();
            return true;
        }
    }
}
