/** The sentences of promises 27 to 35 that name a boundary case: what would be. */
public final class WorthEdgesTest {
    private static final Edges edges = new Edges();

    public static void main(String[] args) {
        promises27and28();
        promises29and30();
        promises31and32();
        promises33to35();
        nothingChanges();
        edges.end();
    }

    private static void promises27and28() {
        edges.sentence("27", "Returns the number of the position.", () -> {
            edges.same("no heaps", new CairnGame().number(), 0);
            edges.same("no heaps, turned round", Games.turned().number(), 0);
            edges.same("1 stone", Games.of(1).number(), 1);
            edges.same("1 stone, turned round: the same", Games.turned(1).number(), 1);
            edges.same("12 by 1, takes alone", Games.by(1, false, false, 12).number(), 0);
            edges.same("12 by 5, takes alone", Games.by(5, false, false, 12).number(), 0);
            edges.same("11 by 5, takes alone", Games.by(5, false, false, 11).number(), 5);
            edges.same("12, splits too", Games.of(12).number(), 3);
            edges.same("12 heaps", Games.ones(12).number(), 0);
            edges.same("11 heaps", Games.ones(11).number(), 1);
        });
        edges.sentence("28",
                "Returns the numbers of all heaps, each as a position of its own without the others, by the "
                + "rules that there are", () -> {
            edges.same("no heaps", new CairnGame().numberByHeaps(), 0);
            edges.same("one heap", Games.of(3).numberByHeaps(), 4);
            edges.same("the same heap twice", Games.of(3, 3).numberByHeaps(), 0);
            edges.same("and once more", Games.of(3, 3, 3).numberByHeaps(), 4);
            edges.same("12 heaps", Games.ones(12).numberByHeaps(), 0);
            edges.same("5 and 4 by 5", Games.by(5, false, false, 5, 4).numberByHeaps(), 1);
            edges.same("5 and 4 by 3", Games.by(3, false, false, 5, 4).numberByHeaps(), 1);
            edges.same("5 and 4 by 1", Games.by(1, false, false, 5, 4).numberByHeaps(), 1);
        });
        edges.sentence("28", "(its parts can be merged, if merging is allowed)", () -> {
            for (int size = 1; size <= 12; size++) {
                for (int greatest = 1; greatest <= 5; greatest++) {
                    int own = Games.by(greatest, true, true, size).number();
                    edges.same("one heap of " + size, Games.by(greatest, true, true, size).numberByHeaps(), own);
                    edges.same("worth by the reference", own,
                            Reference.worth(java.util.List.of(size), greatest, true, true).number());
                }
            }
            edges.same("11 that cannot be merged", Games.by(3, true, false, 11).numberByHeaps(), 1);
            edges.same("11 whose parts can be merged", Games.by(3, true, true, 11).numberByHeaps(), 4);
            edges.same("11 and 1, whose parts can be merged", Games.by(3, true, true, 11, 1).numberByHeaps(), 4 ^ 1);
            edges.same("12 that cannot be merged", Games.by(3, true, false, 12).numberByHeaps(), 3);
            edges.same("12 whose parts can be merged", Games.by(3, true, true, 12).numberByHeaps(), 1);
        });
        edges.sentence("28", "without merging this is the number of the position", () -> {
            int[][] games = {{}, {1}, {12}, {6, 6}, {1, 11}, {5, 4, 3}, {1, 1, 1, 1, 1, 1, 1, 1, 1, 1, 1, 1}};
            for (int[] sizes : games) {
                CairnGame splitting = Games.by(3, true, false, sizes);
                edges.same("splitting", splitting.numberByHeaps(), splitting.number());
                CairnGame takes = Games.by(5, false, false, sizes);
                edges.same("takes alone", takes.numberByHeaps(), takes.number());
            }
            edges.same("with merging", Games.by(3, true, true, 3, 3).number(), 1);
            edges.same("with merging, heap by heap", Games.by(3, true, true, 3, 3).numberByHeaps(), 0);
        });
    }

    private static void promises29and30() {
        edges.sentence("29", "Tells whether the position is won, by the ending that there is.", () -> {
            edges.holds("no heaps", !new CairnGame().isWon());
            edges.holds("no heaps, turned round", Games.turned().isWon());
            edges.holds("the last stone", Games.of(1).isWon());
            edges.holds("the last stone, turned round", !Games.turned(1).isWon());
            edges.holds("12 heaps", !Games.ones(12).isWon());
            CairnGame turned = Games.ones(12);
            turned.turnEnding();
            edges.holds("12 heaps, turned round", turned.isWon());
            turned.turnEnding();
            edges.holds("12 heaps, turned back", !turned.isWon());
            CairnGame both = Games.merging(2, 2);
            edges.holds("lost by both endings", !both.isWon());
            both.turnEnding();
            edges.holds("lost by both endings, turned round", !both.isWon());
        });
        edges.sentence("30", "Throws IndexOutOfBoundsException if there is no such move", () -> {
            for (int wrong : new int[] {-1, 4, Integer.MIN_VALUE, Integer.MAX_VALUE}) {
                edges.refuses("" + wrong, Edges.INDEX, () -> Games.of(3), g -> Games.one(g.wins(wrong)));
            }
            edges.refuses("0 of none", Edges.INDEX, CairnGame::new, g -> Games.one(g.wins(0)));
            edges.refuses("0 of none, turned round", Edges.INDEX, () -> Games.turned(), g -> Games.one(g.wins(0)));
            edges.refuses("78 of 78", Edges.INDEX, () -> Games.mergingOnes(12), g -> Games.one(g.wins(78)));
        });
        edges.sentence("30", "Tells whether a move wins, by the ending that there is.", () -> {
            edges.holds("the first, normal", !Games.of(2).wins(0));
            edges.holds("the first, turned round", Games.turned(2).wins(0));
            edges.holds("the last, normal", Games.of(2).wins(2));
            edges.holds("the last, turned round", !Games.turned(2).wins(2));
            edges.holds("the last of 78", !Games.mergingOnes(12).wins(77));
        });
    }

    private static void promises31and32() {
        edges.sentence("31", "Returns the number of moves that win.", () -> {
            edges.same("no moves", new CairnGame().winningMoves(), 0);
            edges.same("no moves, turned round", Games.turned().winningMoves(), 0);
            edges.same("none", Games.of(5).winningMoves(), 0);
            edges.same("all", Games.ones(11).winningMoves(), 11);
            edges.same("all but one", Games.of(2).winningMoves(), 2);
        });
        edges.sentence("32", "the first move that wins", () -> {
            edges.same("the first of all", Games.turned(2).bestReply(), 0);
            edges.same("the first of two", Games.of(2).bestReply(), 1);
            edges.same("the only one", Games.of(3).bestReply(), 2);
            edges.same("the last of all", Games.of(4).bestReply(), 4);
            // a take and five of the splits win, and behind a split the longest game is longer
            edges.same("the first one, not the longest game", Games.by(1, true, false, 12).bestReply(), 0);
        });
        edges.sentence("32", "if there is none, the first one behind which the longest game is the longest", () -> {
            edges.same("one move", Games.turned(1).bestReply(), 0);
            edges.same("all equal", Games.ones(12).bestReply(), 0);
            // behind each split of 5 there are 8 more moves, behind the takes 7, 5 and 3
            edges.same("the first split", Games.of(5).bestReply(), 3);
            // behind the merge of two twos there are 5 moves more, as behind the splits; it comes after them
            edges.same("not the later one", Games.merging(2, 2).bestReply(), 4);
            edges.same("the least take", Games.by(5, false, false, 12).bestReply(), 0);
        });
        edges.sentence("32", "NONE without heaps", () -> {
            edges.same("normal", new CairnGame().bestReply(), CairnGame.NONE);
            edges.same("turned round", Games.turned().bestReply(), CairnGame.NONE);
            CairnGame game = Games.of(1);
            game.take(0, 1);
            edges.same("after a game", game.bestReply(), CairnGame.NONE);
        });
    }

    private static void promises33to35() {
        edges.sentence("33", "Returns the most moves with which the game can come to its end from here.", () -> {
            edges.same("no heaps", new CairnGame().longestGame(), 0);
            edges.same("1 stone", Games.of(1).longestGame(), 1);
            edges.same("12 stones", Games.of(12).longestGame(), 23);
            edges.same("12 stones, takes alone", Games.by(5, false, false, 12).longestGame(), 12);
            edges.same("12 heaps", Games.ones(12).longestGame(), 12);
            edges.same("12 stones, merging too", Games.merging(12).longestGame(), 23);
        });
        edges.sentence("34", "Returns the fewest moves with which the game can come to its end from here.", () -> {
            edges.same("no heaps", new CairnGame().shortestGame(), 0);
            edges.same("1 stone", Games.of(1).shortestGame(), 1);
            edges.same("3 by 3", Games.of(3).shortestGame(), 1);
            edges.same("4 by 3", Games.of(4).shortestGame(), 2);
            edges.same("5 by 5", Games.by(5, true, false, 5).shortestGame(), 1);
            edges.same("6 by 5", Games.by(5, true, false, 6).shortestGame(), 2);
            edges.same("12 by 1", Games.by(1, true, true, 12).shortestGame(), 12);
            edges.same("12 heaps", Games.ones(12).shortestGame(), 12);
            edges.same("12 heaps, merging too", Games.mergingOnes(12).shortestGame(), 12);
        });
        edges.sentence("35", "0.0 without moves", () -> {
            edges.sameShare("normal", new CairnGame().winningShare(), 0.0);
            edges.sameShare("turned round", Games.turned().winningShare(), 0.0);
        });
        edges.sentence("35", "their number divided by the number of moves", () -> {
            edges.sameShare("none", Games.of(5).winningShare(), 0.0);
            edges.sameShare("all", Games.ones(11).winningShare(), 1.0);
            edges.sameShare("one of one", Games.of(1).winningShare(), 1.0);
            edges.sameShare("two of three", Games.of(2).winningShare(), 2.0 / 3.0);
            edges.sameShare("one of four", Games.of(3).winningShare(), 0.25);
            edges.sameShare("none of 78", Games.mergingOnes(12).winningShare(), 0.0);
        });
    }

    private static void nothingChanges() {
        edges.sentence("Terms", "what would be; nothing changes", () -> {
            Edges.Maker maker = () -> Games.withText(Games.merging(4, 2, 1), "t0-1,m1+0");
            edges.changesNothing("number()", maker, g -> g.number());
            edges.changesNothing("numberByHeaps()", maker, g -> g.numberByHeaps());
            edges.changesNothing("isWon()", maker, g -> Games.one(g.isWon()));
            edges.changesNothing("wins()", maker, g -> Games.one(g.wins(0)));
            edges.changesNothing("winningMoves()", maker, g -> g.winningMoves());
            edges.changesNothing("bestReply()", maker, g -> g.bestReply());
            edges.changesNothing("longestGame()", maker, g -> g.longestGame());
            edges.changesNothing("shortestGame()", maker, g -> g.shortestGame());
            edges.changesNothing("winningShare()", maker, g -> (long) (1000 * g.winningShare()));
        });
    }
}
