import java.util.ArrayList;
import java.util.Collections;
import java.util.HashMap;
import java.util.HashSet;
import java.util.List;
import java.util.Map;
import java.util.Set;

/**
 * The document written a second time, without any care for speed: positions are sorted lists, their worth is found
 * by recursion over the moves themselves, texts are matched by a grammar of prefixes. It shares no code with CairnGame.
 */
public final class Reference {
    /** What a move is, where, and how much. */
    record Move(int kind, int heap, int amount) {
    }

    /** Everything that undo brings back. */
    record State(List<Integer> heaps, int greatest, boolean splitting, boolean merging, boolean normal,
            int player, int made, List<Integer> madeOf) {
    }

    /** The worth of a position by the rules that it was found by. */
    record Worth(int number, boolean wonNormal, boolean wonTurned, int longest, int shortest) {
    }

    private static final Map<String, Worth> FOUND = new HashMap<>();

    private State now = new State(List.of(), 3, true, false, true, 0, 0, List.of(0, 0, 0));
    private final List<State> saved = new ArrayList<>();
    private String text = "";

    private void save() {
        saved.add(now);
        if (saved.size() > 6) {
            saved.remove(0);
        }
    }

    private void set(List<Integer> heaps) {
        now = new State(List.copyOf(heaps), now.greatest, now.splitting, now.merging, now.normal, now.player,
                now.made, now.madeOf);
    }

    private void rules(int greatest, boolean splitting, boolean merging, boolean normal) {
        save();
        now = new State(now.heaps, greatest, splitting, merging, normal, now.player, now.made, now.madeOf);
    }

    static List<Move> list(List<Integer> heaps, int greatest, boolean splitting, boolean merging) {
        List<Move> moves = new ArrayList<>();
        for (int h = 0; h < heaps.size(); h++) {
            for (int s = 1; s <= greatest; s++) {
                if (heaps.get(h) >= s) {
                    moves.add(new Move(0, h, s));
                }
            }
        }
        for (int h = 0; splitting && h < heaps.size(); h++) {
            for (int f = 1; f < heaps.get(h); f++) {
                if (heaps.get(h) - f >= f) {
                    moves.add(new Move(1, h, f));
                }
            }
        }
        for (int a = 0; merging && a < heaps.size(); a++) {
            for (int b = a + 1; b < heaps.size(); b++) {
                moves.add(new Move(2, a, b));
            }
        }
        return moves;
    }

    static List<Integer> after(List<Integer> heaps, Move move) {
        List<Integer> next = new ArrayList<>(heaps);
        int size = heaps.get(move.heap);
        if (move.kind == 0) {
            next.set(move.heap, size - move.amount);
            next.remove(Integer.valueOf(0));
        } else if (move.kind == 1) {
            next.set(move.heap, move.amount);
            next.add(move.heap + 1, size - move.amount);
        } else {
            next.set(move.heap, size + heaps.get(move.amount) - 1);
            next.remove(move.amount);
        }
        return next;
    }

    static Worth worth(List<Integer> heaps, int greatest, boolean splitting, boolean merging) {
        if (heaps.isEmpty()) {
            return new Worth(0, false, true, 0, 0);
        }
        List<Integer> sorted = new ArrayList<>(heaps);
        Collections.sort(sorted);
        String key = greatest + " " + splitting + " " + merging + " " + sorted;
        Worth known = FOUND.get(key);
        if (known != null) {
            return known;
        }
        Set<Integer> numbers = new HashSet<>();
        boolean wonNormal = false;
        boolean wonTurned = false;
        int longest = -1;
        int shortest = 1000;
        for (Move move : list(sorted, greatest, splitting, merging)) {
            Worth behind = worth(after(sorted, move), greatest, splitting, merging);
            numbers.add(behind.number);
            wonNormal |= !behind.wonNormal;
            wonTurned |= !behind.wonTurned;
            longest = Math.max(longest, behind.longest + 1);
            shortest = Math.min(shortest, behind.shortest + 1);
        }
        int number = 0;
        while (numbers.contains(number)) {
            number++;
        }
        Worth worth = new Worth(number, wonNormal, wonTurned, longest, shortest);
        FOUND.put(key, worth);
        return worth;
    }

    private Worth worth(List<Integer> heaps) {
        return worth(heaps, now.greatest, now.splitting, now.merging);
    }

    private List<Move> list() {
        return list(now.heaps, now.greatest, now.splitting, now.merging);
    }

    private Move at(int move) {
        List<Move> moves = list();
        if (move < 0 || move >= moves.size()) {
            throw new IndexOutOfBoundsException();
        }
        return moves.get(move);
    }

    private void carryOut(Move move) {
        List<Integer> madeOf = new ArrayList<>(now.madeOf);
        madeOf.set(move.kind, madeOf.get(move.kind) + 1);
        now = new State(List.copyOf(after(now.heaps, move)), now.greatest, now.splitting, now.merging, now.normal,
                1 - now.player, now.made + 1, List.copyOf(madeOf));
    }

    private void needHeap(int heap) {
        if (heap < 0 || heap >= now.heaps.size()) {
            throw new IndexOutOfBoundsException();
        }
    }

    private static void needRange(int value, int least, int most) {
        if (value < least || value > most) {
            throw new IllegalArgumentException();
        }
    }

    private void saveAndCarryOut(Move move) {
        if (!list().contains(move)) {
            throw new IllegalStateException();
        }
        save();
        carryOut(move);
    }

    public int begin() {
        save();
        int before = stones();
        now = new State(List.of(), now.greatest, now.splitting, now.merging, now.normal, 0, 0, List.of(0, 0, 0));
        return before;
    }

    public int addHeap(int stones) {
        needRange(stones, 1, 12);
        if (stones() + stones > 12) {
            throw new IllegalStateException();
        }
        save();
        List<Integer> heaps = new ArrayList<>(now.heaps);
        heaps.add(stones);
        set(heaps);
        return heaps.size();
    }

    public int setGreatestTake(int stones) {
        needRange(stones, 1, 5);
        int before = now.greatest;
        rules(stones, now.splitting, now.merging, now.normal);
        return before;
    }

    public boolean turnSplitting() {
        rules(now.greatest, !now.splitting, now.merging, now.normal);
        return now.splitting;
    }

    public boolean turnMerging() {
        rules(now.greatest, now.splitting, !now.merging, now.normal);
        return now.merging;
    }

    public boolean turnEnding() {
        rules(now.greatest, now.splitting, now.merging, !now.normal);
        return now.normal;
    }

    public int take(int heap, int stones) {
        needHeap(heap);
        needRange(stones, 1, 5);
        saveAndCarryOut(new Move(0, heap, stones));
        return stones();
    }

    public int split(int heap, int first) {
        needHeap(heap);
        needRange(first, 1, 6);
        saveAndCarryOut(new Move(1, heap, first));
        return heaps();
    }

    public int merge(int heap, int other) {
        needHeap(heap);
        needHeap(other);
        if (heap == other) {
            throw new IllegalArgumentException();
        }
        saveAndCarryOut(new Move(2, Math.min(heap, other), Math.max(heap, other)));
        return now.heaps.get(Math.min(heap, other));
    }

    public int make(int move) {
        Move chosen = at(move);
        saveAndCarryOut(chosen);
        return chosen.kind;
    }

    public int heaps() {
        return now.heaps.size();
    }

    public int stonesOf(int heap) {
        needHeap(heap);
        return now.heaps.get(heap);
    }

    public int stones() {
        return now.heaps.stream().mapToInt(Integer::intValue).sum();
    }

    public int greatestTake() {
        return now.greatest;
    }

    public boolean isSplitting() {
        return now.splitting;
    }

    public boolean isMerging() {
        return now.merging;
    }

    public boolean isNormal() {
        return now.normal;
    }

    public int player() {
        return now.player;
    }

    public int made() {
        return now.made;
    }

    public int madeOf(int kind) {
        needRange(kind, 0, 2);
        return now.madeOf.get(kind);
    }

    public int winner() {
        if (!now.heaps.isEmpty() || now.made == 0) {
            return -1;
        }
        int last = 1 - now.player;
        return now.normal ? last : 1 - last;
    }

    public int moves() {
        return list().size();
    }

    public int kindOf(int move) {
        return at(move).kind;
    }

    public int heapOf(int move) {
        return at(move).heap;
    }

    public int amountOf(int move) {
        return at(move).amount;
    }

    public int number() {
        return worth(now.heaps).number;
    }

    public int numberByHeaps() {
        int together = 0;
        for (int size : now.heaps) {
            together ^= worth(List.of(size)).number;
        }
        return together;
    }

    private boolean isWon(List<Integer> heaps) {
        return now.normal ? worth(heaps).wonNormal : worth(heaps).wonTurned;
    }

    public boolean isWon() {
        return isWon(now.heaps);
    }

    public boolean wins(int move) {
        return !isWon(after(now.heaps, at(move)));
    }

    public int winningMoves() {
        int count = 0;
        for (Move move : list()) {
            count += isWon(after(now.heaps, move)) ? 0 : 1;
        }
        return count;
    }

    public int bestReply() {
        List<Move> moves = list();
        for (int m = 0; m < moves.size(); m++) {
            if (!isWon(after(now.heaps, moves.get(m)))) {
                return m;
            }
        }
        for (int length = 100; length >= 0; length--) {
            for (int m = 0; m < moves.size(); m++) {
                if (worth(after(now.heaps, moves.get(m))).longest == length) {
                    return m;
                }
            }
        }
        return -1;
    }

    public int longestGame() {
        return worth(now.heaps).longest;
    }

    public int shortestGame() {
        return worth(now.heaps).shortest;
    }

    public double winningShare() {
        return moves() == 0 ? 0.0 : (double) winningMoves() / moves();
    }

    public int append(int code) {
        needRange(code, 33, 126);
        if (text.length() == 60) {
            throw new IllegalStateException();
        }
        text += (char) code;
        return text.length();
    }

    public int clearText() {
        int before = text.length();
        text = "";
        return before;
    }

    private static final String HEAP = "(?:[0-9]|10|11)";
    private static final String ITEM = "(?:t" + HEAP + "-[1-5]|s" + HEAP + "/[1-6]|m" + HEAP + "\\+" + HEAP + ")";
    private static final String MOVES = ITEM + "(?:," + ITEM + ")*";

    private static boolean begins(String start) {
        // whatever an item still lacks, one of these tails completes it
        for (String tail : List.of("", "0", "1", "-1", "/1", "+0", "0-1", "0/1", "0+0", "t0-1")) {
            if ((start + tail).matches(MOVES)) {
                return true;
            }
        }
        return false;
    }

    public int firstError() {
        for (int i = 0; i < text.length(); i++) {
            if (!begins(text.substring(0, i + 1))) {
                return i;
            }
        }
        return text.matches(MOVES) ? -1 : text.length();
    }

    public int play() {
        if (!text.matches(MOVES)) {
            throw new IllegalStateException();
        }
        save();
        int done = 0;
        for (String item : text.split(",")) {
            String[] parts = item.substring(1).split("[-/+]");
            int kind = "tsm".indexOf(item.charAt(0));
            int heap = Integer.parseInt(parts[0]);
            int amount = Integer.parseInt(parts[1]);
            Move move = kind < 2 ? new Move(kind, heap, amount)
                    : new Move(2, Math.min(heap, amount), Math.max(heap, amount));
            if (!list().contains(move)) {
                break;
            }
            carryOut(move);
            done++;
        }
        text = "";
        return done;
    }

    public int undo() {
        if (saved.isEmpty()) {
            throw new IllegalStateException();
        }
        now = saved.remove(saved.size() - 1);
        return saved.size();
    }

    public long digest() {
        List<Long> values = new ArrayList<>();
        values.add((long) heaps());
        for (int size : now.heaps) {
            values.add((long) size);
        }
        long[] rest = {greatestTake(), isSplitting() ? 1 : 0, isMerging() ? 1 : 0, isNormal() ? 1 : 0, player(), made(),
                winner(), moves(), number(), numberByHeaps(), isWon() ? 1 : 0, winningMoves(), bestReply(),
                longestGame(), shortestGame(), madeOf(0), madeOf(1), madeOf(2)};
        for (long value : rest) {
            values.add(value);
        }
        long hash = 165;
        for (long value : values) {
            hash = 31 * hash + value;
        }
        return hash;
    }
}
