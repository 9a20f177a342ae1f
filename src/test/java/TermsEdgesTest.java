import java.util.List;

/** The sentences of "Terms" that name a boundary case: heaps, rules, moves, their order, positions. */
public final class TermsEdgesTest {
    private static final int[][] MIXED = {{12}, {1, 11}, {6, 6}, {5, 4, 3}, {2, 2, 2, 2, 2, 2}, {3, 1, 1, 1, 6}};

    private static final Edges edges = new Edges();

    public static void main(String[] args) {
        calls();
        constants();
        heaps();
        rules();
        takes();
        splits();
        merges();
        players();
        order();
        positions();
        edges.end();
    }

    // ---- the object

    private static void calls() {
        edges.sentence("What it is", "An object is used for at most 512 calls after it has been made", () -> {
            CairnGame game = new CairnGame();
            for (int move = 0; move < 255; move++) {
                edges.same("heaps then", game.addHeap(1), 1);
                edges.same("the last stone", game.take(0, 1), 0);
            }
            edges.same("call 511: moves made", game.made(), 255);
            Reference due = new Reference();
            for (int move = 0; move < 255; move++) {
                due.addHeap(1);
                due.take(0, 1);
            }
            edges.same("call 512: digest", game.digest(), due.digest());
        });
    }

    private static void constants() {
        edges.sentence("Terms", "NONE = -1: There is no such number.", () -> {
            edges.same("NONE", CairnGame.NONE, -1);
            edges.same("winner", new CairnGame().winner(), CairnGame.NONE);
            edges.same("best reply", new CairnGame().bestReply(), CairnGame.NONE);
            edges.same("first error", Games.withText(Games.of(1), "t0-1").firstError(), CairnGame.NONE);
        });
        edges.sentence("Terms", "TAKE = 0, SPLIT = 1, MERGE = 2: What a move is.", () -> {
            edges.same("TAKE", CairnGame.TAKE, 0);
            edges.same("SPLIT", CairnGame.SPLIT, 1);
            edges.same("MERGE", CairnGame.MERGE, 2);
        });
    }

    // ---- heaps

    private static void heaps() {
        edges.sentence("Heaps", "There are heaps of 1 or more stones, with at most 12 stones together", () -> {
            for (int last = 1; last <= 12; last++) {
                int size = last;
                if (size < 12) {
                    edges.leaves("12 together, " + size + " last", () -> Games.of(12 - size), g -> g.addHeap(size), 2,
                            12 - size, size);
                }
                edges.refuses("13 together, " + size + " last", Edges.STATE, () -> Games.of(13 - size),
                        g -> g.addHeap(size));
            }
            edges.leaves("12 heaps", () -> Games.ones(11), g -> g.addHeap(1), 12, 1, 1, 1, 1, 1, 1, 1, 1, 1, 1, 1, 1);
            edges.refuses("13 heaps", Edges.STATE, () -> Games.ones(12), g -> g.addHeap(1));
            CairnGame filled = Games.ones(12);
            filled.take(11, 1);
            edges.same("room again", filled.addHeap(1), 12);
        });
        edges.sentence("Heaps", "heaps are numbered from 0 in their order", () -> {
            CairnGame game = Games.of(3, 1, 2);
            edges.same("the first", game.stonesOf(0), 3);
            edges.same("the last", game.stonesOf(2), 2);
            edges.refuses("behind the last", Edges.INDEX, () -> Games.of(3, 1, 2), g -> g.stonesOf(3));
            edges.refuses("before the first", Edges.INDEX, () -> Games.of(3, 1, 2), g -> g.stonesOf(-1));
            edges.same("the twelfth", Games.ones(12).stonesOf(11), 1);
            edges.refuses("a thirteenth", Edges.INDEX, () -> Games.ones(12), g -> g.stonesOf(12));
        });
        edges.sentence("Heaps", "At first there are none.", () -> {
            edges.same("heaps", new CairnGame().heaps(), 0);
            edges.same("stones", new CairnGame().stones(), 0);
            edges.refuses("heap 0", Edges.INDEX, CairnGame::new, g -> g.stonesOf(0));
        });
    }

    // ---- rules

    private static void rules() {
        edges.sentence("What it is", "rules that can be changed", () -> {
            for (int[] sizes : MIXED) {
                everyRule(sizes);
            }
        });
        edges.sentence("Rules", "The greatest take is from 1 to 5, at first 3.", () -> {
            edges.same("at first", new CairnGame().greatestTake(), 3);
            edges.refuses("0", Edges.ARGUMENT, () -> Games.of(6), g -> g.setGreatestTake(0));
            edges.refuses("6", Edges.ARGUMENT, () -> Games.of(6), g -> g.setGreatestTake(6));
            for (int greatest = 1; greatest <= 5; greatest++) {
                CairnGame game = Games.of(6);
                game.setGreatestTake(greatest);
                edges.same("set", game.greatestTake(), greatest);
            }
        });
        edges.sentence("Rules", "Splitting is allowed, as at first, or not", () -> {
            edges.holds("at first", new CairnGame().isSplitting());
            CairnGame game = Games.of(2);
            edges.same("with it", game.moves(), 3);
            game.turnSplitting();
            edges.same("without it", game.moves(), 2);
            game.turnSplitting();
            edges.same("with it again", game.moves(), 3);
        });
        edges.sentence("Rules", "merging is allowed, or not, as at first", () -> {
            edges.holds("at first", !new CairnGame().isMerging());
            CairnGame game = Games.ones(2);
            edges.same("without it", game.moves(), 2);
            game.turnMerging();
            edges.same("with it", game.moves(), 3);
            game.turnMerging();
            edges.same("without it again", game.moves(), 2);
        });
        edges.sentence("Rules", "The ending is normal, as at first, or turned round.", () -> {
            edges.holds("at first", new CairnGame().isNormal());
            CairnGame game = Games.of(1);
            edges.holds("normal", game.isWon());
            game.turnEnding();
            edges.holds("turned round", !game.isWon());
            game.turnEnding();
            edges.holds("normal again", game.isWon());
        });
    }

    /** One game that goes through all rules finds what a new one finds by the same rules. */
    private static void everyRule(int... sizes) {
        CairnGame game = Games.of(sizes);
        for (int step = 0; step < 20; step++) {
            int greatest = 1 + step / 4;
            game.setGreatestTake(greatest);
            // turned by turns, so that all four of both come for each greatest take
            if (step % 2 == 0) {
                game.turnSplitting();
            } else {
                game.turnMerging();
            }
            CairnGame due = Games.by(greatest, game.isSplitting(), game.isMerging(), sizes);
            edges.same("the rules after step " + step, game.digest(), due.digest());
        }
    }

    // ---- moves

    private static void takes() {
        edges.sentence("Moves",
                "to take from 1 stone to as many as the greatest take tells from a heap that has so many",
                () -> {
            for (int row = 0; row < 60; row++) {
                int greatest = 1 + row / 12;
                int size = 1 + row % 12;
                Edges.Maker maker = () -> Games.by(greatest, true, false, size);
                for (int last = 1; last <= 5; last++) {
                    int stones = last;
                    String what = stones + " of " + size + " by " + greatest;
                    if (stones <= greatest && stones < size) {
                        edges.leaves(what, maker, g -> g.take(0, stones), size - stones, size - stones);
                    } else if (stones <= greatest && stones == size) {
                        edges.leaves(what, maker, g -> g.take(0, stones), 0);
                    } else {
                        edges.refuses(what, Edges.STATE, maker, g -> g.take(0, stones));
                    }
                }
            }
        });
        edges.sentence("Moves",
                "a heap without stones is gone, and those behind it get numbers that are 1 less", () -> {
            edges.leaves("the first", () -> Games.of(3, 5, 2), g -> g.take(0, 3), 7, 5, 2);
            edges.leaves("a middle one", () -> Games.of(5, 3, 2), g -> g.take(1, 3), 7, 5, 2);
            edges.leaves("the last", () -> Games.of(5, 2, 3), g -> g.take(2, 3), 7, 5, 2);
            edges.leaves("the only one", () -> Games.of(3), g -> g.take(0, 3), 0);
            edges.leaves("one stone stays", () -> Games.of(5, 3, 2), g -> g.take(1, 2), 8, 5, 1, 2);
            int[] ones = {1, 1, 1, 1, 1, 1, 1, 1, 1, 1, 1};
            edges.leaves("heap 0 of 12", () -> Games.ones(12), g -> g.take(0, 1), 11, ones);
            edges.leaves("heap 11 of 12", () -> Games.ones(12), g -> g.take(11, 1), 11, ones);
        });
    }

    private static void splits() {
        edges.sentence("Moves", "to split a heap, if splitting is allowed", () -> {
            edges.leaves("allowed", () -> Games.of(2), g -> g.split(0, 1), 2, 1, 1);
            edges.refuses("forbidden", Edges.STATE, () -> Games.takesOf(3, 2), g -> g.split(0, 1));
            edges.refuses("forbidden, halves", Edges.STATE, () -> Games.takesOf(3, 12), g -> g.split(0, 6));
        });
        edges.sentence("Moves",
                "into a first part of at least 1 stone, and the rest, which has to be at least as great as "
                + "the first part", () -> {
            for (int last = 1; last <= 12; last++) {
                int size = last;
                edges.refuses("no first part of " + size, Edges.ARGUMENT, () -> Games.of(size), g -> g.split(0, 0));
                for (int part = 1; part <= 6; part++) {
                    int first = part;
                    if (first <= size - first) {
                        edges.leaves(first + " of " + size, () -> Games.of(size), g -> g.split(0, first), 2, first,
                                size - first);
                    } else {
                        edges.refuses(first + " of " + size, Edges.STATE, () -> Games.of(size), g -> g.split(0, first));
                    }
                }
            }
        });
        edges.sentence("Moves",
                "the first part stays in the place of the heap, and the rest comes right behind it", () -> {
            edges.leaves("the first", () -> Games.of(5, 4, 3), g -> g.split(0, 2), 4, 2, 3, 4, 3);
            edges.leaves("a middle one", () -> Games.of(4, 5, 3), g -> g.split(1, 2), 4, 4, 2, 3, 3);
            edges.leaves("the last", () -> Games.of(4, 3, 5), g -> g.split(2, 2), 4, 4, 3, 2, 3);
            int[] ones = {1, 1, 1, 1, 1, 1, 1, 1, 1, 1, 1, 1};
            for (int place = 0; place < 11; place++) {
                int heap = place;
                edges.leaves("the twelfth heap from heap " + heap, () -> Games.onesWithATwo(heap),
                        g -> g.split(heap, 1), 12, ones);
            }
        });
    }

    private static void merges() {
        edges.sentence("Moves", "to merge two heaps, if merging is allowed", () -> {
            edges.leaves("allowed", () -> Games.merging(1, 1), g -> g.merge(0, 1), 1, 1);
            edges.refuses("forbidden", Edges.STATE, () -> Games.of(1, 1), g -> g.merge(0, 1));
            edges.refuses("one heap, no other", Edges.INDEX, () -> Games.merging(1), g -> g.merge(0, 1));
        });
        edges.sentence("Moves",
                "the heap with the higher number is gone, and the other one has the stones of both, minus 1",
                () -> {
            for (int a = 1; a <= 11; a++) {
                for (int b = 1; a + b <= 12; b++) {
                    int low = a;
                    int high = b;
                    edges.leaves("the higher one second", () -> Games.merging(low, high), g -> g.merge(0, 1),
                            low + high - 1, low + high - 1);
                    edges.leaves("the higher one first", () -> Games.merging(low, high), g -> g.merge(1, 0),
                            low + high - 1, low + high - 1);
                }
            }
            edges.leaves("those behind it move up", () -> Games.merging(2, 3, 4, 1), g -> g.merge(0, 1), 4, 4, 4, 1);
            edges.leaves("the first and the last", () -> Games.merging(2, 3, 4, 1), g -> g.merge(3, 0), 2, 2, 3, 4);
            edges.leaves("the last two", () -> Games.merging(2, 3, 1, 4), g -> g.merge(3, 2), 4, 2, 3, 4);
            edges.leaves("0 and 11", () -> Games.mergingOnes(12), g -> g.merge(0, 11), 1,
                    1, 1, 1, 1, 1, 1, 1, 1, 1, 1, 1);
        });
        edges.sentence("Moves", "(this stone is thrown away)", () -> {
            CairnGame game = Games.mergingOnes(12);
            for (int left = 11; left >= 1; left--) {
                game.merge(0, 1);
                edges.same("stones", game.stones(), left);
            }
            edges.sizes("all merged", game, 1);
            edges.same("room for 11 again", game.addHeap(11), 2);
        });
    }

    private static void players() {
        edges.sentence("Moves", "There are two players, 0 and 1, who move by turns; the player 0 begins.", () -> {
            CairnGame game = Games.ones(12);
            for (int move = 0; move < 12; move++) {
                edges.same("before move " + move, game.player(), move % 2);
                game.take(0, 1);
            }
            edges.same("after 12 moves", game.player(), 0);
        });
        edges.sentence("Moves", "The game is over when there is no heap.", () -> {
            CairnGame game = Games.of(1);
            edges.same("moves before", game.moves(), 1);
            edges.same("nobody has won yet", game.winner(), CairnGame.NONE);
            game.take(0, 1);
            edges.same("moves then", game.moves(), 0);
            edges.same("somebody has won", game.winner(), 0);
        });
        edges.sentence("Moves",
                "With the normal ending the player who made the last move wins, with the other one that "
                + "player loses.", () -> {
            for (int last = 0; last < 2; last++) {
                CairnGame normal = Games.ones(1 + last);
                CairnGame turned = Games.ones(1 + last);
                turned.turnEnding();
                for (int move = 0; move <= last; move++) {
                    normal.take(0, 1);
                    turned.take(0, 1);
                }
                edges.same("normal, player " + last + " last", normal.winner(), last);
                edges.same("turned round, player " + last + " last", turned.winner(), 1 - last);
            }
        });
    }

    // ---- the order of moves

    private static void move(CairnGame game, int move, int kind, int heap, int amount) {
        edges.same("kind of " + move, game.kindOf(move), kind);
        edges.same("heap of " + move, game.heapOf(move), heap);
        edges.same("amount of " + move, game.amountOf(move), amount);
    }

    private static void order() {
        edges.sentence("Order of moves", "Moves are numbered from 0", () -> {
            move(Games.of(1), 0, CairnGame.TAKE, 0, 1);
            move(Games.mergingOnes(12), 0, CairnGame.TAKE, 0, 1);
            move(Games.mergingOnes(12), 77, CairnGame.MERGE, 10, 11);
            edges.refuses("-1", Edges.INDEX, () -> Games.of(1), g -> g.kindOf(-1));
            edges.refuses("1 of 1", Edges.INDEX, () -> Games.of(1), g -> g.kindOf(1));
            edges.refuses("78 of 78", Edges.INDEX, () -> Games.mergingOnes(12), g -> g.kindOf(78));
        });
        edges.sentence("Order of moves",
                "first all takes, by rising heaps, and by rising numbers of stones for each heap",
                () -> {
            CairnGame game = Games.merging(4, 2, 1);
            int[][] due = {{0, 1}, {0, 2}, {0, 3}, {1, 1}, {1, 2}, {2, 1}};
            for (int move = 0; move < due.length; move++) {
                move(game, move, CairnGame.TAKE, due[move][0], due[move][1]);
            }
            edges.same("the first that is no take", game.kindOf(6), CairnGame.SPLIT);
        });
        edges.sentence("Order of moves", "then all splits, by rising heaps, and by rising first parts", () -> {
            CairnGame game = Games.merging(4, 1, 5);
            int[][] due = {{0, 1}, {0, 2}, {2, 1}, {2, 2}};
            edges.same("the last take", game.kindOf(6), CairnGame.TAKE);
            for (int move = 0; move < due.length; move++) {
                move(game, 7 + move, CairnGame.SPLIT, due[move][0], due[move][1]);
            }
            edges.same("the first merge", game.kindOf(11), CairnGame.MERGE);
            CairnGame great = Games.of(12);
            move(great, 3, CairnGame.SPLIT, 0, 1);
            move(great, 8, CairnGame.SPLIT, 0, 6);
            edges.same("no more", great.moves(), 9);
        });
        edges.sentence("Order of moves", "then all merges, by the lower heap, and by the higher one", () -> {
            CairnGame game = Games.merging(1, 1, 1, 1);
            int[][] due = {{0, 1}, {0, 2}, {0, 3}, {1, 2}, {1, 3}, {2, 3}};
            // heaps of 1 have no splits
            edges.same("the last take", game.kindOf(3), CairnGame.TAKE);
            for (int move = 0; move < due.length; move++) {
                move(game, 4 + move, CairnGame.MERGE, due[move][0], due[move][1]);
            }
            edges.same("no more", game.moves(), 10);
        });
        edges.sentence("Order of moves", "(Heaps of the same size are different heaps.)", () -> {
            CairnGame game = Games.merging(2, 2);
            edges.same("4 takes, 2 splits, 1 merge", game.moves(), 7);
            move(game, 2, CairnGame.TAKE, 1, 1);
            move(game, 5, CairnGame.SPLIT, 1, 1);
            edges.same("12 takes, 66 merges", Games.mergingOnes(12).moves(), 78);
            edges.same("each take wins", Games.ones(11).winningMoves(), 11);
        });
    }

    // ---- positions

    private static void positions() {
        edges.sentence("Positions", "Two positions are alike if they have heaps of the same sizes, in whichever order.",
                () -> {
            int[][] orders = {{1, 2, 5, 4}, {4, 5, 2, 1}, {5, 1, 4, 2}, {2, 4, 1, 5}};
            CairnGame first = Games.merging(orders[0]);
            for (int[] order : orders) {
                CairnGame game = Games.merging(order);
                edges.same("number", game.number(), first.number());
                edges.same("number by heaps", game.numberByHeaps(), first.numberByHeaps());
                edges.same("longest", game.longestGame(), first.longestGame());
                edges.same("shortest", game.shortestGame(), first.shortestGame());
                edges.same("winning moves", game.winningMoves(), first.winningMoves());
                game.turnEnding();
                edges.same("won, turned round", Games.one(game.isWon()),
                        Games.one(Reference.worth(List.of(1, 2, 4, 5), 3, true, true).wonTurned()));
            }
        });
        edges.sentence("Positions",
                "without heaps it is lost with the normal ending, and won with the other one", () -> {
            edges.holds("normal", !new CairnGame().isWon());
            edges.holds("turned round", Games.turned().isWon());
            CairnGame played = Games.of(1);
            played.take(0, 1);
            edges.holds("normal, after a game", !played.isWon());
            played.turnEnding();
            edges.holds("turned round, after a game", played.isWon());
        });
        edges.sentence("Positions", "A move wins if the position behind it is lost.", () -> {
            edges.holds("no heaps behind it, normal", Games.of(1).wins(0));
            edges.holds("no heaps behind it, turned round", !Games.turned(1).wins(0));
            edges.holds("one stone behind it, normal", !Games.of(2).wins(0));
            edges.holds("one stone behind it, turned round", Games.turned(2).wins(0));
        });
        edges.sentence("Positions",
                "The number of a position is the least number from 0 on that is not the number of a "
                + "position behind one of its moves", () -> {
            edges.same("0 is not behind it", Games.takesOf(5, 6).number(), 0);
            edges.same("only 0 is behind it", Games.of(1).number(), 1);
            edges.same("0 to 4 are behind it", Games.takesOf(5, 5).number(), 5);
            // 2 and 1 leave the takes, 3 leaves the split
            CairnGame three = Games.of(3);
            three.setGreatestTake(2);
            edges.same("1, 2 and 3 are behind it", three.number(), 0);
            // 7 leaves 4, 5, 6 with 3, 0, 2, and splits into 3 and 4, 2 and 5, 1 and 6 with 7, 2, 3: 1 is the gap
            edges.same("a gap", Games.of(7).number(), 1);
            CairnGame greatest = Games.merging(4, 3, 3, 2);
            greatest.setGreatestTake(5);
            edges.same("the greatest of all", greatest.number(), 10);
        });
        edges.sentence("Positions", "without heaps it is 0", () -> {
            edges.same("normal", new CairnGame().number(), 0);
            edges.same("turned round, with merging", Games.merging().number(), 0);
            edges.same("turned round", Games.turned().number(), 0);
        });
        edges.sentence("Positions",
                "A position is won if the player whose turn it is can win, whatever the other one does, "
                + "otherwise it is lost", () -> {
            for (int[] sizes : MIXED) {
                playOut(Games.merging(sizes));
                CairnGame turned = Games.merging(sizes);
                turned.turnEnding();
                playOut(turned);
            }
        });
    }

    /** The player who can win goes by bestReply(), the other one takes the last of all moves: that player wins. */
    private static void playOut(CairnGame game) {
        int due = game.isWon() ? game.player() : 1 - game.player();
        for (int move = 0; move < 23 && game.heaps() > 0; move++) {
            game.make(game.player() == due ? game.bestReply() : game.moves() - 1);
        }
        edges.same("the winner", game.winner(), due);
    }
}
