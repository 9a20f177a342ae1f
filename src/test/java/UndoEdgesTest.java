import java.math.BigInteger;
import java.util.ArrayList;
import java.util.List;

/** The sentences about saved states, exceptions and the digest: "Undo" and "Exceptions", promises 40 and 41. */
public final class UndoEdgesTest {
    private static final Edges edges = new Edges();

    public static void main(String[] args) {
        saving();
        keeping();
        state();
        exceptions();
        promise40();
        promise41();
        edges.end();
    }

    /** A game in which so many states have been saved, of which 6 are kept. */
    private static CairnGame saved(int states) {
        CairnGame game = new CairnGame();
        for (int state = 0; state < states; state++) {
            build(game, state);
        }
        return game;
    }

    private static boolean canUndo(CairnGame game) {
        try {
            game.undo();
            return true;
        } catch (IllegalStateException e) {
            return false;
        }
    }

    /** Different states, from the third one on with two heaps that can be split and merged. */
    private static void build(CairnGame game, int state) {
        switch (state) {
            case 0 -> game.addHeap(4);
            case 1 -> game.addHeap(2);
            case 2 -> game.turnMerging();
            case 3 -> game.turnEnding();
            case 4 -> game.setGreatestTake(2);
            case 5 -> game.take(0, 1);
            default -> game.addHeap(1);
        }
    }

    private static void saving() {
        undoable("2", 0, g -> g.begin());
        undoable("3", 0, g -> g.addHeap(1));
        undoable("4", 0, g -> g.setGreatestTake(1), g -> g.setGreatestTake(5),
                g -> g.setGreatestTake(g.greatestTake()));
        undoable("5", 0, g -> Games.one(g.turnSplitting()));
        undoable("6", 0, g -> Games.one(g.turnMerging()));
        undoable("7", 0, g -> Games.one(g.turnEnding()));
        undoable("8", 2, g -> g.take(0, 1), g -> g.take(1, 2));
        undoable("9", 2, g -> g.split(0, 1), g -> g.split(1, 1));
        undoable("10", 3, g -> g.merge(0, 1), g -> g.merge(1, 0));
        undoable("11", 3, g -> g.make(0), g -> g.make(g.moves() / 2), g -> g.make(g.moves() - 1));
        edges.sentence("Undo",
                "Each method that is marked \"Undoable\" saves the state as it was before the call", () -> {
            CairnGame game = saved(3);
            long due = game.digest();
            game.merge(0, 1);
            game.undo();
            edges.same("the state before the call", game.digest(), due);
        });
        edges.sentence("Undo", "unless it throws an exception", UndoEdgesTest::refusedSaveNothing);
        edges.sentence("Undo", "marked \"Undoable\"", UndoEdgesTest::othersSaveNothing);
    }

    /** The calls save one state, with none saved before (or as many as they need), and with 6 and more. */
    private static void undoable(String promise, int least, Edges.Call... calls) {
        edges.sentence(promise, "Undoable.", () -> {
            for (int k = least; k <= 8; k++) {
                int states = k;
                for (int call = 0; call < calls.length; call++) {
                    edges.saves("call " + call + " with " + k + " saved", () -> saved(states), calls[call]);
                }
            }
        });
    }

    private static void othersSaveNothing() {
        Edges.Maker maker = () -> Games.withText(saved(7), "t0-1");
        edges.savesNothing("append()", maker, g -> g.append('x'));
        edges.savesNothing("clearText()", maker, g -> g.clearText());
        edges.savesNothing("firstError()", maker, g -> g.firstError());
        edges.savesNothing("digest()", maker, g -> g.digest());
        edges.savesNothing("stonesOf()", maker, g -> g.stonesOf(0));
        edges.savesNothing("stones()", maker, g -> g.stones());
        edges.savesNothing("made()", maker, g -> g.made());
        edges.savesNothing("madeOf()", maker, g -> g.madeOf(0));
        edges.savesNothing("winner()", maker, g -> g.winner());
        edges.savesNothing("moves()", maker, g -> g.moves());
        edges.savesNothing("kindOf()", maker, g -> g.kindOf(0));
        edges.savesNothing("heapOf()", maker, g -> g.heapOf(0));
        edges.savesNothing("amountOf()", maker, g -> g.amountOf(0));
        edges.savesNothing("bestReply()", maker, g -> g.bestReply());
    }

    private static void refusedSaveNothing() {
        for (int k : new int[] {2, 5, 6, 7}) {
            int states = k;
            edges.refuses("addHeap()", Edges.STATE, () -> saved(states), g -> g.addHeap(12));
            edges.refuses("setGreatestTake()", Edges.ARGUMENT, () -> saved(states), g -> g.setGreatestTake(6));
            edges.refuses("take()", Edges.STATE, () -> saved(states), g -> g.take(1, 3));
            edges.refuses("split()", Edges.STATE, () -> saved(states), g -> g.split(1, 2));
            edges.refuses("merge()", Edges.ARGUMENT, () -> saved(states), g -> g.merge(1, 1));
            edges.refuses("make()", Edges.INDEX, () -> saved(states), g -> g.make(g.moves()));
            edges.refusesAsIs("play()", Edges.STATE, () -> Games.withText(saved(states), "t0-1,"), g -> g.play());
        }
        edges.refuses("undo()", Edges.STATE, () -> saved(0), g -> g.undo());
    }

    private static void keeping() {
        edges.sentence("Undo", "At most 6 states are kept; when a seventh is saved, the oldest one is dropped.", () -> {
            for (int first = 0; first <= 14; first++) {
                for (int undone = 0; undone <= Math.min(6, first); undone++) {
                    for (int then = 0; then <= 8; then++) {
                        keeps(first, undone, then);
                    }
                }
            }
        });
    }

    /** Saves, undoes and saves again, beside a plain list of what is kept. */
    private static void keeps(int first, int undone, int then) {
        String what = first + " saved, " + undone + " undone, " + then + " saved: ";
        CairnGame game = new CairnGame();
        List<Integer> kept = new ArrayList<>();
        for (int save = 0; save < first; save++) {
            change(game, kept, save);
        }
        for (int undo = 0; undo < undone; undo++) {
            back(what, game, kept);
        }
        for (int save = 0; save < then; save++) {
            change(game, kept, first + save);
        }
        edges.same(what + "kept", kept.size(), Math.min(6, Math.min(6, first) - undone + then));
        while (!kept.isEmpty()) {
            back(what, game, kept);
        }
        edges.holds(what + "no more", !canUndo(game));
    }

    /** The state is known by the greatest take, and whether splitting is allowed. */
    private static int known(CairnGame game) {
        return game.greatestTake() + (game.isSplitting() ? 10 : 0);
    }

    private static void change(CairnGame game, List<Integer> kept, int save) {
        kept.add(known(game));
        if (kept.size() > 6) {
            kept.remove(0);
        }
        if (save % 6 == 5) {
            game.turnSplitting();
        } else {
            game.setGreatestTake(1 + save % 6);
        }
    }

    private static void back(String what, CairnGame game, List<Integer> kept) {
        int due = kept.remove(kept.size() - 1);
        edges.same(what + "left", game.undo(), kept.size());
        edges.same(what + "the state", known(game), due);
    }

    private static void state() {
        edges.sentence("Undo", "The state is everything except the text and the saved states.", () -> {
            CairnGame game = Games.merging(5, 4);
            game.take(0, 1);
            game.split(1, 2);
            game.merge(0, 1);
            game.setGreatestTake(4);
            Games.withText(game, "t0");
            long due = game.digest();
            game.begin();
            game.undo();
            edges.same("digest", game.digest(), due);
            edges.sizes("heaps", game, 5, 2);
            edges.same("greatest take", game.greatestTake(), 4);
            edges.same("player", game.player(), 1);
            edges.same("made", game.made(), 3);
            for (int kind = 0; kind < 3; kind++) {
                edges.same("made of kind " + kind, game.madeOf(kind), 1);
            }
            Games.withText(game, "-1");
            game.undo();
            edges.same("the greatest take before", game.greatestTake(), 3);
            edges.same("the text goes on", game.clearText(), 4);
            game.undo();
            edges.same("the text stays empty", game.clearText(), 0);
            edges.sizes("before the merge", game, 4, 2, 2);
        });
    }

    // ---- exceptions

    private static void exceptions() {
        edges.sentence("Exceptions", "A call that throws an exception changes nothing.", () -> {
            CairnGame game = Games.withText(Games.merging(6, 4), "s0/");
            game.take(0, 1);
            long due = game.digest();
            Edges.Call[] calls = {g -> g.addHeap(0), g -> g.addHeap(13), g -> g.addHeap(4), g -> g.setGreatestTake(0),
                g -> g.setGreatestTake(6), g -> g.take(2, 1), g -> g.take(0, 6), g -> g.take(0, 4), g -> g.split(2, 1),
                g -> g.split(0, 7), g -> g.split(0, 3), g -> g.merge(0, 2), g -> g.merge(1, 1), g -> g.make(-1),
                g -> g.stonesOf(2), g -> g.madeOf(3), g -> g.kindOf(-1), g -> g.heapOf(99), g -> g.amountOf(-1),
                g -> Games.one(g.wins(-1)), g -> g.append(32), g -> g.play()};
            for (int call = 0; call < calls.length; call++) {
                boolean thrown = false;
                try {
                    calls[call].on(game);
                } catch (RuntimeException e) {
                    thrown = true;
                }
                edges.holds("call " + call + " throws", thrown);
                edges.same("digest after call " + call, game.digest(), due);
            }
            edges.same("the states behind all of them", game.undo(), 3);
            edges.same("the text behind all of them", game.append('1'), 4);
            edges.same("and its move", game.play(), 1);
        });
        edges.sentence("Exceptions",
                "If several exceptions apply to a call, the one that stands first in its throws clause is "
                + "thrown.", () -> {
            edges.refuses("addHeap: range, room", Edges.ARGUMENT, () -> Games.of(12), g -> g.addHeap(13));
            edges.refuses("take: heap, range", Edges.INDEX, () -> Games.of(4), g -> g.take(1, 0));
            edges.refuses("take: heap, no move", Edges.INDEX, () -> Games.of(4), g -> g.take(1, 5));
            edges.refuses("take: range, no move", Edges.ARGUMENT, () -> Games.of(4), g -> g.take(0, 6));
            edges.refuses("split: heap, range", Edges.INDEX, () -> Games.of(4), g -> g.split(1, 7));
            edges.refuses("split: heap, forbidden", Edges.INDEX, () -> Games.takesOf(3, 4), g -> g.split(1, 1));
            edges.refuses("split: range, no move", Edges.ARGUMENT, () -> Games.of(4), g -> g.split(0, 7));
            edges.refuses("split: range, forbidden", Edges.ARGUMENT, () -> Games.takesOf(3, 4), g -> g.split(0, 0));
            edges.refuses("merge: heap, same", Edges.INDEX, () -> Games.merging(4), g -> g.merge(1, 1));
            edges.refuses("merge: heap, forbidden", Edges.INDEX, () -> Games.of(4), g -> g.merge(1, 0));
            edges.refuses("merge: other, forbidden", Edges.INDEX, () -> Games.of(4), g -> g.merge(0, 1));
            edges.refuses("merge: heap, same, forbidden", Edges.INDEX, () -> Games.of(4), g -> g.merge(1, 1));
            edges.refuses("merge: same, forbidden", Edges.ARGUMENT, () -> Games.of(4), g -> g.merge(0, 0));
            edges.refusesAsIs("append: range, room", Edges.ARGUMENT,
                    () -> Games.withText(Games.of(4), "x".repeat(60)), g -> g.append(127));
        });
        edges.sentence("Exceptions", "IndexOutOfBoundsException: there is no such heap or move.", () -> {
            edges.refuses("heap", Edges.INDEX, () -> Games.of(4), g -> g.stonesOf(1));
            edges.refuses("move", Edges.INDEX, () -> Games.of(4), g -> g.kindOf(5));
        });
        edges.sentence("Exceptions", "IllegalArgumentException: another argument is out of its range.", () -> {
            edges.refuses("kind", Edges.ARGUMENT, () -> Games.of(4), g -> g.madeOf(3));
            edges.refuses("rule", Edges.ARGUMENT, () -> Games.of(4), g -> g.setGreatestTake(6));
        });
        edges.sentence("Exceptions", "IllegalStateException: the call is not possible as things are.", () -> {
            edges.refuses("by the rules", Edges.STATE, () -> Games.of(4), g -> g.take(0, 4));
            edges.refuses("by the heaps", Edges.STATE, () -> Games.of(2), g -> g.take(0, 3));
            edges.refuses("by the text", Edges.STATE, () -> Games.withText(Games.of(2), ","), g -> g.play());
            edges.refuses("by the saved states", Edges.STATE, CairnGame::new, g -> g.undo());
        });
    }

    // ---- promises 40 and 41

    private static void promise40() {
        edges.sentence("40", "Restores the state that was saved last, and drops it.", () -> {
            CairnGame game = Games.of(3);
            game.take(0, 1);
            game.take(0, 1);
            game.undo();
            edges.sizes("the last", game, 2);
            game.undo();
            edges.sizes("the one before, not the last again", game, 3);
            game.undo();
            edges.sizes("the first", game);
        });
        edges.sentence("40", "Returns the number of states that are left.", () -> {
            for (int states = 1; states <= 8; states++) {
                CairnGame game = Games.ones(states);
                for (int left = Math.min(6, states) - 1; left >= 0; left--) {
                    edges.same("left of " + states, game.undo(), left);
                }
                edges.same("heaps that stay of " + states, game.heaps(), Math.max(0, states - 6));
            }
        });
        edges.sentence("40", "Throws IllegalStateException if no state is saved", () -> {
            edges.refuses("a new object", Edges.STATE, CairnGame::new, g -> g.undo());
            edges.refuses("one saved, one undone", Edges.STATE, () -> undone(1, 1), g -> g.undo());
            edges.refuses("six saved, six undone", Edges.STATE, () -> undone(6, 6), g -> g.undo());
            edges.refuses("seven saved, six undone", Edges.STATE, () -> undone(7, 6), g -> g.undo());
            edges.refuses("twelve saved, six undone", Edges.STATE, () -> undone(12, 6), g -> g.undo());
            CairnGame game = new CairnGame();
            edges.holds("thrown", !canUndo(game));
            game.addHeap(2);
            edges.same("undone after a refused one", game.undo(), 0);
        });
    }

    private static CairnGame undone(int saves, int undos) {
        CairnGame game = Games.ones(saves);
        for (int undo = 0; undo < undos; undo++) {
            game.undo();
        }
        return game;
    }

    private static void promise41() {
        edges.sentence("41", "The hash starts at 165.", () -> {
            edges.same("a new object", new CairnGame().digest(), -3449928064310207524L);
            edges.same("a new object, by the list", new CairnGame().digest(), listed(new CairnGame()));
        });
        edges.sentence("41", "in long arithmetic with overflow (a boolean is 1 for true, 0 for false)", () -> {
            CairnGame[] games = {Games.of(1), Games.of(12), Games.ones(12), Games.mergingOnes(12), Games.turned(),
                Games.turned(1), Games.takesOf(5, 6, 6), Games.merging(4, 3, 3, 2), over(false), over(true)};
            for (int game = 0; game < games.length; game++) {
                edges.same("game " + game, games[game].digest(), listed(games[game]));
            }
        });
        edges.sentence("41", "the values of heaps(); the stones of each heap", () -> {
            edges.holds("the order counts", Games.of(1, 2).digest() != Games.of(2, 1).digest());
            edges.same("12 heaps", Games.ones(12).digest(), listed(Games.ones(12)));
            edges.changesNothing("digest()", () -> Games.withText(Games.of(4, 2), "t0-1"), g -> g.digest());
            edges.same("the text is no part", Games.withText(Games.of(4), "t0").digest(), Games.of(4).digest());
        });
    }

    /** A game that is over; its winner, and its best reply, are told by the digest too. */
    private static CairnGame over(boolean turned) {
        CairnGame game = turned ? Games.turned(2) : Games.of(2);
        game.split(0, 1);
        game.take(0, 1);
        game.take(0, 1);
        return game;
    }

    /** The hash in numbers without bounds, cut down to 64 bits at the end. */
    private static long listed(CairnGame game) {
        List<Long> values = new ArrayList<>();
        values.add((long) game.heaps());
        for (int heap = 0; heap < game.heaps(); heap++) {
            values.add((long) game.stonesOf(heap));
        }
        long[] others = {game.greatestTake(), Games.one(game.isSplitting()), Games.one(game.isMerging()),
            Games.one(game.isNormal()), game.player(), game.made(), game.winner(), game.moves(), game.number(),
            game.numberByHeaps(), Games.one(game.isWon()), game.winningMoves(), game.bestReply(), game.longestGame(),
            game.shortestGame(), game.madeOf(0), game.madeOf(1), game.madeOf(2)};
        for (long value : others) {
            values.add(value);
        }
        BigInteger hash = BigInteger.valueOf(165);
        for (long value : values) {
            hash = hash.multiply(BigInteger.valueOf(31)).add(BigInteger.valueOf(value));
        }
        return hash.longValue();
    }
}
