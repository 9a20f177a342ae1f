/**
 * A game of cairns for two players: heaps of stones that are taken, split and merged by rules that can be
 * changed, what each position is worth, and moves that are read from a text.
 */
public final class CairnGame {
    public static final int NONE = -1;
    public static final int TAKE = 0, SPLIT = 1, MERGE = 2;

    private static final int KINDS = 3;
    private static final int MOST_STONES = 12;
    private static final int MOST_TAKE = 5;
    private static final int MOST_FIRST = 6;
    private static final int MOST_SIGNS = 60;
    private static final int MOST_SAVED = 6;
    // 12 takes (one a stone), 6 splits (one for two stones) and 66 merges (12 heaps of 1) can never be passed
    private static final int MOST_MOVES = 84;
    private static final int RULE_SETS = MOST_TAKE * 4;

    // A position is known by the sum of its heaps' weights, its slot: no two positions of at most 12 stones
    // have the same sum, and the greatest sum is 870. (Each weight is the least one that keeps them apart.)
    private static final int[] WEIGHTS = {0, 1, 13, 68, 182, 288, 435, 100, 244, 145, 35, 24, 38};
    private static final int SLOTS = 1024;
    private static final int LAST_SLOT = SLOTS - 1;

    private final State state = new State();
    private final History history = new History();
    private final MoveList list = new MoveList();
    private final Solver solver = new Solver();
    private final Text text = new Text();

    public CairnGame() {
    }

    // ---- heaps and rules

    public int begin() {
        history.save(state);
        int before = state.total();
        state.startAnew();
        return before;
    }

    public int addHeap(int stones) throws IllegalArgumentException, IllegalStateException {
        if (stones < 1 || stones > MOST_STONES) {
            throw new IllegalArgumentException("a heap has 1 to 12 stones");
        }
        if (state.total() + stones > MOST_STONES) {
            throw new IllegalStateException("there would be more than 12 stones");
        }
        history.save(state);
        state.insert(state.count, stones);
        return state.count;
    }

    public int setGreatestTake(int stones) throws IllegalArgumentException {
        if (stones < 1 || stones > MOST_TAKE) {
            throw new IllegalArgumentException("the greatest take is 1 to 5");
        }
        history.save(state);
        int before = state.greatest;
        state.greatest = stones;
        return before;
    }

    public boolean turnSplitting() {
        history.save(state);
        state.splitting = !state.splitting;
        return state.splitting;
    }

    public boolean turnMerging() {
        history.save(state);
        state.merging = !state.merging;
        return state.merging;
    }

    public boolean turnEnding() {
        history.save(state);
        state.normal = !state.normal;
        return state.normal;
    }

    // ---- moves

    public int take(int heap, int stones)
            throws IndexOutOfBoundsException, IllegalArgumentException, IllegalStateException {
        requireHeap(heap);
        if (stones < 1 || stones > MOST_TAKE) {
            throw new IllegalArgumentException("1 to 5 stones are taken");
        }
        requireMove(TAKE, heap, stones);
        history.save(state);
        state.carryOut(TAKE, heap, stones);
        return state.total();
    }

    public int split(int heap, int first)
            throws IndexOutOfBoundsException, IllegalArgumentException, IllegalStateException {
        requireHeap(heap);
        if (first < 1 || first > MOST_FIRST) {
            throw new IllegalArgumentException("a first part has 1 to 6 stones");
        }
        requireMove(SPLIT, heap, first);
        history.save(state);
        state.carryOut(SPLIT, heap, first);
        return state.count;
    }

    public int merge(int heap, int other)
            throws IndexOutOfBoundsException, IllegalArgumentException, IllegalStateException {
        requireHeap(heap);
        requireHeap(other);
        if (heap == other) {
            throw new IllegalArgumentException("two heaps are merged");
        }
        requireMove(MERGE, heap, other);
        history.save(state);
        state.carryOut(MERGE, heap, other);
        return state.sizeAt(Math.min(heap, other));
    }

    public int make(int move) throws IndexOutOfBoundsException {
        requireListed(move);
        history.save(state);
        int kind = list.kinds[move];
        state.carryOut(kind, list.heaps[move], list.amounts[move]);
        return kind;
    }

    // ---- the game as it is

    public int heaps() {
        return state.count;
    }

    public int stonesOf(int heap) throws IndexOutOfBoundsException {
        requireHeap(heap);
        return state.sizeAt(heap);
    }

    public int stones() {
        return state.total();
    }

    public int greatestTake() {
        return state.greatest;
    }

    public boolean isSplitting() {
        return state.splitting;
    }

    public boolean isMerging() {
        return state.merging;
    }

    public boolean isNormal() {
        return state.normal;
    }

    public int player() {
        return made() % 2;
    }

    public int made() {
        return state.madeOfKind[TAKE] + state.madeOfKind[SPLIT] + state.madeOfKind[MERGE];
    }

    public int madeOf(int kind) throws IllegalArgumentException {
        if (kind < 0 || kind >= KINDS) {
            throw new IllegalArgumentException("there is no such kind");
        }
        return state.madeOfKind[kind];
    }

    public int winner() {
        if (state.count > 0 || made() == 0) {
            return NONE;
        }
        return state.normal ? 1 - player() : player();
    }

    // ---- moves that are possible

    public int moves() {
        list.fill(state);
        return list.count;
    }

    public int kindOf(int move) throws IndexOutOfBoundsException {
        requireListed(move);
        return list.kinds[move];
    }

    public int heapOf(int move) throws IndexOutOfBoundsException {
        requireListed(move);
        return list.heaps[move];
    }

    public int amountOf(int move) throws IndexOutOfBoundsException {
        requireListed(move);
        return list.amounts[move];
    }

    // ---- what would be; nothing changes

    public int number() {
        return solver.solve(state).numbers[state.slot()];
    }

    public int numberByHeaps() {
        Solution solution = solver.solve(state);
        int together = 0;
        for (int heap = 0; heap < state.count; heap++) {
            together ^= solution.numbers[weightOf(state.sizeAt(heap))];
        }
        return together;
    }

    public boolean isWon() {
        return solver.solve(state).isWonAt(state.slot(), state.normal);
    }

    public boolean wins(int move) throws IndexOutOfBoundsException {
        requireListed(move);
        return isWinner(solver.solve(state), move);
    }

    public int winningMoves() {
        Solution solution = solver.solve(state);
        list.fill(state);
        int winners = 0;
        for (int move = 0; move < list.count; move++) {
            if (isWinner(solution, move)) {
                winners++;
            }
        }
        return winners;
    }

    public int bestReply() {
        Solution solution = solver.solve(state);
        list.fill(state);
        int best = NONE;
        int longest = -1;
        for (int move = 0; move < list.count; move++) {
            if (isWinner(solution, move)) {
                return move;
            }
            int length = solution.longest[list.behind[move]];
            if (length > longest) {
                longest = length;
                best = move;
            }
        }
        return best;
    }

    public int longestGame() {
        return solver.solve(state).longest[state.slot()];
    }

    public int shortestGame() {
        return solver.solve(state).shortest[state.slot()];
    }

    public double winningShare() {
        int winners = winningMoves();
        int all = moves();
        return all > 0 ? (double) winners / all : 0.0;
    }

    // ---- the text

    public int append(int code) throws IllegalArgumentException, IllegalStateException {
        if (code < 33 || code > 126) {
            throw new IllegalArgumentException("a character has a code from 33 to 126");
        }
        if (text.length >= MOST_SIGNS) {
            throw new IllegalStateException("the text has 60 characters");
        }
        text.add((char) code);
        return text.length;
    }

    public int clearText() {
        int before = text.length;
        text.length = 0;
        return before;
    }

    public int firstError() {
        return text.findError();
    }

    public int play() throws IllegalStateException {
        if (text.findError() != NONE) {
            throw new IllegalStateException("the text does not tell moves");
        }
        history.save(state);
        text.at = 0;
        int done = 0;
        while (done < MOST_SIGNS && text.readItem() && state.isMove(text.kind, text.heap, text.amount)) {
            state.carryOut(text.kind, text.heap, text.amount);
            text.readSign(',');
            done++;
        }
        text.length = 0;
        return done;
    }

    // ---- undo

    public int undo() throws IllegalStateException {
        if (history.count == 0) {
            throw new IllegalStateException("no state is saved");
        }
        history.restore(state);
        return history.count;
    }

    public long digest() {
        long hash = mix(165, heaps());
        for (int heap = 0; heap < state.count; heap++) {
            hash = mix(hash, state.sizeAt(heap));
        }
        hash = mix(hash, greatestTake());
        hash = mix(hash, bit(isSplitting()));
        hash = mix(hash, bit(isMerging()));
        hash = mix(hash, bit(isNormal()));
        hash = mix(hash, player());
        hash = mix(hash, made());
        hash = mix(hash, winner());
        hash = mix(hash, moves());
        hash = mix(hash, number());
        hash = mix(hash, numberByHeaps());
        hash = mix(hash, bit(isWon()));
        hash = mix(hash, winningMoves());
        hash = mix(hash, bestReply());
        hash = mix(hash, longestGame());
        hash = mix(hash, shortestGame());
        for (int kind = 0; kind < KINDS; kind++) {
            hash = mix(hash, state.madeOfKind[kind]);
        }
        return hash;
    }

    // ---- helpers

    private static long mix(long hash, long value) {
        return 31 * hash + value;
    }

    private static int bit(boolean flag) {
        return flag ? 1 : 0;
    }

    private static int weightOf(int size) {
        return size >= 0 && size < WEIGHTS.length ? WEIGHTS[size] : 0;
    }

    private void requireHeap(int heap) {
        if (!state.hasHeap(heap)) {
            throw new IndexOutOfBoundsException("there is no such heap");
        }
    }

    private void requireMove(int kind, int heap, int amount) {
        if (!state.isMove(kind, heap, amount)) {
            throw new IllegalStateException("this is no move");
        }
    }

    /** Lists the moves that are possible, and refuses a number that none of them has. */
    private void requireListed(int move) {
        list.fill(state);
        if (move < 0 || move >= list.count) {
            throw new IndexOutOfBoundsException("there is no such move");
        }
    }

    private boolean isWinner(Solution solution, int move) {
        return !solution.isWonAt(list.behind[move], state.normal);
    }

    /** The heaps, the rules and the numbers of moves made: all that undo brings back. */
    private static final class State {
        final int[] sizes = new int[MOST_STONES];
        int count = 0;
        int greatest = 3;
        boolean splitting = true;
        boolean merging = false;
        boolean normal = true;
        // whose turn it is follows from these: the player 0 begins, and the turns alternate
        final int[] madeOfKind = new int[KINDS];

        void copyFrom(State other) {
            System.arraycopy(other.sizes, 0, sizes, 0, MOST_STONES);
            count = other.count;
            greatest = other.greatest;
            splitting = other.splitting;
            merging = other.merging;
            normal = other.normal;
            System.arraycopy(other.madeOfKind, 0, madeOfKind, 0, KINDS);
        }

        void startAnew() {
            count = 0;
            for (int kind = 0; kind < KINDS; kind++) {
                madeOfKind[kind] = 0;
            }
        }

        boolean hasHeap(int heap) {
            return heap >= 0 && heap < count;
        }

        int sizeAt(int heap) {
            return hasHeap(heap) ? sizes[heap] : 0;
        }

        int total() {
            int sum = 0;
            for (int heap = 0; heap < count; heap++) {
                sum += sizes[heap];
            }
            return sum;
        }

        int slot() {
            int sum = 0;
            for (int heap = 0; heap < count; heap++) {
                sum += weightOf(sizes[heap]);
            }
            return sum & LAST_SLOT;
        }

        /** The number of the rules that moves depend on, from 0 to RULE_SETS - 1; the ending is none of them. */
        int ruleSet() {
            return (greatest - 1) * 4 + bit(splitting) * 2 + bit(merging);
        }

        boolean isMove(int kind, int heap, int amount) {
            if (!hasHeap(heap)) {
                return false;
            }
            if (kind == TAKE) {
                return amount >= 1 && amount <= greatest && amount <= sizes[heap];
            }
            if (kind == SPLIT) {
                return splitting && amount >= 1 && amount <= sizes[heap] - amount;
            }
            return merging && hasHeap(amount) && heap != amount;
        }

        /** Carries out what isMove() has allowed, and counts it. */
        void carryOut(int kind, int heap, int amount) {
            if (kind == TAKE) {
                shrink(heap, amount);
            } else if (kind == SPLIT) {
                insert(heap + 1, sizes[heap] - amount);
                sizes[heap] = amount;
            } else {
                sizes[Math.min(heap, amount)] = sizes[heap] + sizes[amount] - 1;
                remove(Math.max(heap, amount));
            }
            madeOfKind[kind]++;
        }

        void shrink(int heap, int stones) {
            sizes[heap] -= stones;
            if (sizes[heap] == 0) {
                remove(heap);
            }
        }

        void insert(int place, int stones) {
            if (place < 0 || place > count || count >= MOST_STONES) {
                return;
            }
            for (int heap = count; heap > place; heap--) {
                sizes[heap] = sizes[heap - 1];
            }
            sizes[place] = stones;
            count++;
        }

        void remove(int place) {
            if (!hasHeap(place)) {
                return;
            }
            count--;
            for (int heap = place; heap < count; heap++) {
                sizes[heap] = sizes[heap + 1];
            }
        }
    }

    /** The states saved last, in a ring whose rows are used again. */
    private static final class History {
        final State[] saved = new State[MOST_SAVED];
        int next = 0;
        int count = 0;

        History() {
            for (int place = 0; place < MOST_SAVED; place++) {
                saved[place] = new State();
            }
        }

        void save(State state) {
            saved[next].copyFrom(state);
            next = (next + 1) % MOST_SAVED;
            count = Math.min(count + 1, MOST_SAVED);
        }

        void restore(State state) {
            next = (next + MOST_SAVED - 1) % MOST_SAVED;
            count--;
            state.copyFrom(saved[next]);
        }
    }

    /** The moves of a state in their order, each with the slot of the position behind it. */
    private static final class MoveList {
        final int[] kinds = new int[MOST_MOVES];
        final int[] heaps = new int[MOST_MOVES];
        final int[] amounts = new int[MOST_MOVES];
        final int[] behind = new int[MOST_MOVES];
        int count = 0;

        void fill(State state) {
            count = 0;
            int slot = state.slot();
            addTakes(state, slot);
            if (state.splitting) {
                addSplits(state, slot);
            }
            if (state.merging) {
                addMerges(state, slot);
            }
        }

        private void addTakes(State state, int slot) {
            for (int heap = 0; heap < state.count; heap++) {
                int size = state.sizes[heap];
                int others = slot - weightOf(size);
                int most = Math.min(size, state.greatest);
                for (int taken = 1; taken <= most; taken++) {
                    add(TAKE, heap, taken, others + weightOf(size - taken));
                }
            }
        }

        private void addSplits(State state, int slot) {
            for (int heap = 0; heap < state.count; heap++) {
                int size = state.sizes[heap];
                int others = slot - weightOf(size);
                for (int first = 1; first <= size - first; first++) {
                    add(SPLIT, heap, first, others + weightOf(first) + weightOf(size - first));
                }
            }
        }

        private void addMerges(State state, int slot) {
            for (int low = 0; low < state.count; low++) {
                int size = state.sizes[low];
                int others = slot - weightOf(size);
                for (int high = low + 1; high < state.count; high++) {
                    int added = state.sizes[high];
                    add(MERGE, low, high, others - weightOf(added) + weightOf(size + added - 1));
                }
            }
        }

        private void add(int kind, int heap, int amount, int slotBehind) {
            if (count < MOST_MOVES) {
                kinds[count] = kind;
                heaps[count] = heap;
                amounts[count] = amount;
                behind[count] = slotBehind & LAST_SLOT;
                count++;
            }
        }
    }

    /** What each position is worth by one set of rules, by its slot; the position without heaps has the slot 0. */
    private static final class Solution {
        static final int LONGER_THAN_ALL = 1000;

        final int[] numbers = new int[SLOTS];
        final int[] longest = new int[SLOTS];
        final int[] shortest = new int[SLOTS];
        final boolean[] wonTurned = new boolean[SLOTS];
        // all positions of so many stones and of fewer are entered
        int solvedStones = 0;

        Solution() {
            wonTurned[0] = true;
        }

        boolean isWonAt(int slot, boolean normal) {
            // with the normal ending just those positions are lost whose number is 0
            return normal ? numbers[slot] != 0 : wonTurned[slot];
        }

        /** Enters a position with heaps; the positions behind its moves have been entered before. */
        void enter(int slot, MoveList list) {
            long numbersBehind = 0;
            int most = 0;
            int fewest = LONGER_THAN_ALL;
            boolean won = false;
            for (int move = 0; move < list.count; move++) {
                int behind = list.behind[move];
                numbersBehind |= 1L << numbers[behind];
                most = Math.max(most, longest[behind]);
                fewest = Math.min(fewest, shortest[behind]);
                won = won || !wonTurned[behind];
            }
            numbers[slot] = leastMissing(numbersBehind);
            longest[slot] = most + 1;
            shortest[slot] = fewest + 1;
            wonTurned[slot] = won;
        }

        /** The lowest bit that is not set; a number is at most the longest game, 23, so there is one. */
        private static int leastMissing(long bits) {
            int number = 0;
            while (number < 63 && (bits >> number & 1) == 1) {
                number++;
            }
            return number;
        }
    }

    /** Solves the positions by a set of rules once, and keeps what it found. */
    private static final class Solver {
        final Solution[] solutions = new Solution[RULE_SETS];
        final State probe = new State();
        final MoveList list = new MoveList();

        /** Finds the worth of all positions with as many stones as the state has, and of those with fewer. */
        Solution solve(State state) {
            int ruleSet = state.ruleSet();
            if (solutions[ruleSet] == null) {
                solutions[ruleSet] = new Solution();
            }
            Solution solution = solutions[ruleSet];
            int total = state.total();
            if (solution.solvedStones < total) {
                probe.copyFrom(state);
                for (int stones = solution.solvedStones + 1; stones <= total; stones++) {
                    solveAll(solution, stones);
                }
                solution.solvedStones = total;
            }
            return solution;
        }

        private void solveAll(Solution solution, int stones) {
            startWithOnes(stones);
            boolean more = true;
            // 12 stones make 77 positions, fewer stones fewer
            for (int position = 0; more && position < 100; position++) {
                list.fill(probe);
                solution.enter(probe.slot(), list);
                more = stepOn();
            }
        }

        private void startWithOnes(int stones) {
            probe.count = 0;
            appendOnes(stones);
        }

        /**
         * Goes on to the next position of the same stones, its heaps from the greatest to the least, as words are
         * ordered. A split makes a heap smaller that stands before all that it changes, so it leads backwards.
         */
        private boolean stepOn() {
            int[] sizes = probe.sizes;
            int grown = probe.count - 2;
            while (grown > 0 && sizes[grown - 1] == sizes[grown]) {
                grown--;
            }
            if (grown < 0) {
                return false;
            }
            int rest = -1;
            for (int heap = grown + 1; heap < probe.count; heap++) {
                rest += sizes[heap];
            }
            sizes[grown]++;
            probe.count = grown + 1;
            appendOnes(rest);
            return true;
        }

        private void appendOnes(int stones) {
            for (int stone = 0; stone < stones; stone++) {
                probe.insert(probe.count, 1);
            }
        }
    }

    /** The text, and a reader that goes over its items. */
    private static final class Text {
        static final String LETTERS = "tsm";
        static final String LINKS = "-/+";

        final char[] signs = new char[MOST_SIGNS];
        int length = 0;
        // where the reader stands, and the item that it read last
        int at = 0;
        int kind = NONE;
        int heap = NONE;
        int amount = NONE;

        void add(char sign) {
            if (length < MOST_SIGNS) {
                signs[length] = sign;
                length++;
            }
        }

        /** The index where no moves can go on, the length if only their end is missing, or NONE. */
        int findError() {
            at = 0;
            for (int item = 0; item < MOST_SIGNS; item++) {
                if (!readItem()) {
                    return at;
                }
                if (at >= length) {
                    return NONE;
                }
                if (!readSign(',')) {
                    return at;
                }
            }
            return at;
        }

        /** Reads an item; if there is none, the reader stays where it went wrong. */
        boolean readItem() {
            kind = LETTERS.indexOf(signHere());
            if (kind == NONE) {
                return false;
            }
            at++;
            heap = readHeap();
            if (heap == NONE || !readSign(LINKS.charAt(kind))) {
                return false;
            }
            amount = readAmount();
            return amount != NONE;
        }

        private int readAmount() {
            if (kind == MERGE) {
                return readHeap();
            }
            int digit = signHere() - '0';
            if (digit < 1 || digit > (kind == TAKE ? MOST_TAKE : MOST_FIRST)) {
                return NONE;
            }
            at++;
            return digit;
        }

        private int readHeap() {
            int digit = signHere() - '0';
            if (digit < 0 || digit > 9) {
                return NONE;
            }
            at++;
            if (digit != 1) {
                return digit;
            }
            return readSign('0') ? 10 : readSign('1') ? 11 : 1;
        }

        boolean readSign(char sign) {
            if (signHere() != sign) {
                return false;
            }
            at++;
            return true;
        }

        /** The sign at the reader; behind the end the sign 0, which no text has. */
        private char signHere() {
            return at >= 0 && at < length ? signs[at] : (char) 0;
        }
    }
}
