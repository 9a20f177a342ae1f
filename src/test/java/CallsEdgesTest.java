/** The sentences of promises 1 to 26 that name a boundary case: heaps and rules, moves, the game as it is. */
public final class CallsEdgesTest {
    private static final Edges edges = new Edges();

    public static void main(String[] args) {
        promises1and2();
        promise3();
        promises4to7();
        promise8();
        promise9();
        promise10();
        promise11();
        promises12to14();
        promises15to18();
        promises19to21();
        promise22();
        promises23to26();
        edges.end();
    }

    // ---- heaps and rules

    private static void promises1and2() {
        edges.sentence("1", "Creates a game without heaps.", () -> {
            CairnGame game = new CairnGame();
            edges.sizes("none", game);
            edges.same("stones", game.stones(), 0);
            edges.same("moves", game.moves(), 0);
            edges.same("made", game.made(), 0);
            edges.same("text", game.clearText(), 0);
            edges.refuses("nothing to undo", Edges.STATE, CairnGame::new, g -> g.undo());
            CairnGame other = Games.of(1);
            edges.same("a second one has its own heaps", game.heaps(), 0);
            edges.same("and its own states", other.undo(), 0);
        });
        edges.sentence("2",
                "Begins a game without heaps: it is the turn of the player 0, and no move has been made", () -> {
            CairnGame game = Games.merging(3, 3);
            game.split(1, 1);
            game.merge(0, 1);
            game.take(1, 1);
            edges.same("the player before", game.player(), 1);
            game.begin();
            edges.sizes("begun", game);
            edges.same("player", game.player(), 0);
            edges.same("made", game.made(), 0);
            for (int kind = 0; kind < 3; kind++) {
                edges.same("made of kind " + kind, game.madeOf(kind), 0);
            }
            edges.same("winner", game.winner(), CairnGame.NONE);
            edges.same("begun without heaps", game.begin(), 0);
        });
        edges.sentence("2", "rules stay", () -> {
            CairnGame game = Games.merging(3);
            game.setGreatestTake(5);
            game.turnSplitting();
            game.turnEnding();
            game.begin();
            edges.same("greatest take", game.greatestTake(), 5);
            edges.holds("splitting", !game.isSplitting());
            edges.holds("merging", game.isMerging());
            edges.holds("ending", !game.isNormal());
        });
        edges.sentence("2", "Returns the number of stones that there were.", () -> {
            edges.leaves("none", CairnGame::new, g -> g.begin(), 0);
            edges.leaves("1", () -> Games.of(1), g -> g.begin(), 1);
            edges.leaves("12 in one heap", () -> Games.of(12), g -> g.begin(), 12);
            edges.leaves("12 heaps", () -> Games.ones(12), g -> g.begin(), 12);
        });
    }

    private static void promise3() {
        edges.sentence("3", "stones: 1 to 12", () -> {
            edges.leaves("1", CairnGame::new, g -> g.addHeap(1), 1, 1);
            edges.leaves("12", CairnGame::new, g -> g.addHeap(12), 1, 12);
        });
        edges.sentence("3", "Throws IllegalArgumentException if stones is out of range", () -> {
            for (int wrong : new int[] {0, -1, 13, Integer.MIN_VALUE, Integer.MAX_VALUE}) {
                edges.refuses("no heaps, " + wrong, Edges.ARGUMENT, CairnGame::new, g -> g.addHeap(wrong));
                edges.refuses("all stones, " + wrong, Edges.ARGUMENT, () -> Games.of(12), g -> g.addHeap(wrong));
            }
        });
        edges.sentence("3", "Throws IllegalStateException if there would be more than 12 stones together", () -> {
            edges.leaves("12 together", () -> Games.of(5, 6), g -> g.addHeap(1), 3, 5, 6, 1);
            edges.refuses("13 together", Edges.STATE, () -> Games.of(5, 6), g -> g.addHeap(2));
            edges.refuses("24 together", Edges.STATE, () -> Games.of(12), g -> g.addHeap(12));
            edges.refuses("13 heaps", Edges.STATE, () -> Games.ones(12), g -> g.addHeap(1));
        });
        edges.sentence("3", "Returns the number of heaps then.", () -> {
            CairnGame game = new CairnGame();
            for (int heaps = 1; heaps <= 12; heaps++) {
                edges.same("heap after heap", game.addHeap(1), heaps);
            }
        });
        edges.sentence("3", "Adds a heap behind the last one; this is no move.", () -> {
            edges.leaves("the first", CairnGame::new, g -> g.addHeap(4), 1, 4);
            edges.leaves("the twelfth", () -> Games.ones(11), g -> g.addHeap(1), 12,
                    1, 1, 1, 1, 1, 1, 1, 1, 1, 1, 1, 1);
            CairnGame game = Games.of(2);
            game.take(0, 2);
            game.addHeap(1);
            edges.same("made", game.made(), 1);
            edges.same("player", game.player(), 1);
            edges.same("the game goes on", game.winner(), CairnGame.NONE);
        });
    }

    private static void promises4to7() {
        edges.sentence("4", "stones: 1 to 5", () -> {
            edges.leaves("1", () -> Games.of(5), g -> g.setGreatestTake(1), 3, 5);
            edges.leaves("5", () -> Games.of(5), g -> g.setGreatestTake(5), 3, 5);
            edges.same("1 take and 2 splits", movesBy(1), 3);
            edges.same("5 takes and 2 splits", movesBy(5), 7);
        });
        edges.sentence("4", "Throws IllegalArgumentException if stones is out of range", () -> {
            for (int wrong : new int[] {0, -1, 6, Integer.MIN_VALUE, Integer.MAX_VALUE}) {
                edges.refuses("" + wrong, Edges.ARGUMENT, () -> Games.of(6), g -> g.setGreatestTake(wrong));
            }
        });
        edges.sentence("4", "Returns the greatest take before.", () -> {
            CairnGame game = new CairnGame();
            edges.same("at first", game.setGreatestTake(5), 3);
            edges.same("the greatest", game.setGreatestTake(1), 5);
            edges.same("the least", game.setGreatestTake(1), 1);
            edges.same("the same again", game.setGreatestTake(2), 1);
        });
        edges.sentence("5", "Returns whether it is allowed then.", () -> {
            CairnGame game = new CairnGame();
            edges.holds("first", !game.turnSplitting());
            edges.holds("second", game.turnSplitting());
        });
        edges.sentence("6", "Returns whether it is allowed then.", () -> {
            CairnGame game = new CairnGame();
            edges.holds("first", game.turnMerging());
            edges.holds("second", !game.turnMerging());
        });
        edges.sentence("7", "Returns whether it is normal then.", () -> {
            CairnGame game = new CairnGame();
            edges.holds("first", !game.turnEnding());
            edges.holds("second", game.turnEnding());
        });
    }

    private static int movesBy(int greatest) {
        return Games.by(greatest, true, false, 5).moves();
    }

    // ---- moves

    private static CairnGame bySix(int greatest) {
        return Games.by(greatest, true, false, 6, 2);
    }

    private static void promise8() {
        edges.sentence("8", "Throws IndexOutOfBoundsException if there is no such heap", () -> {
            for (int wrong : new int[] {-1, 2, 12, Integer.MIN_VALUE, Integer.MAX_VALUE}) {
                edges.refuses("heap " + wrong, Edges.INDEX, () -> Games.of(4, 2), g -> g.take(wrong, 1));
            }
            edges.refuses("none", Edges.INDEX, CairnGame::new, g -> g.take(0, 1));
            edges.refuses("gone", Edges.INDEX, () -> takenFrom(1, 1), g -> g.take(1, 1));
            edges.refuses("12 of 12", Edges.INDEX, () -> Games.ones(12), g -> g.take(12, 1));
        });
        edges.sentence("8", "stones: 1 to 5", () -> {
            edges.leaves("1", () -> bySix(5), g -> g.take(0, 1), 7, 5, 2);
            edges.leaves("5", () -> bySix(5), g -> g.take(0, 5), 3, 1, 2);
        });
        edges.sentence("8", "Throws IllegalArgumentException if stones is out of range", () -> {
            for (int wrong : new int[] {0, -1, 6, Integer.MIN_VALUE, Integer.MAX_VALUE}) {
                edges.refuses(wrong + " stones", Edges.ARGUMENT, () -> bySix(5), g -> g.take(0, wrong));
                edges.refuses(wrong + " stones of 2 by 1", Edges.ARGUMENT, () -> bySix(1), g -> g.take(1, wrong));
            }
        });
        edges.sentence("8", "Throws IllegalStateException if this is no move", () -> {
            edges.refuses("1 above the greatest take", Edges.STATE, () -> bySix(4), g -> g.take(0, 5));
            edges.refuses("2 by 1", Edges.STATE, () -> bySix(1), g -> g.take(0, 2));
            edges.refuses("1 above the heap", Edges.STATE, () -> bySix(5), g -> g.take(1, 3));
            edges.refuses("2 of 1", Edges.STATE, () -> Games.of(1), g -> g.take(0, 2));
            edges.refuses("above both", Edges.STATE, () -> bySix(3), g -> g.take(1, 4));
            edges.leaves("the greatest take", () -> bySix(4), g -> g.take(0, 4), 4, 2, 2);
            edges.leaves("the heap", () -> bySix(5), g -> g.take(1, 2), 6, 6);
        });
        edges.sentence("8", "Returns the number of stones together then.", () -> {
            edges.leaves("none", () -> Games.of(1), g -> g.take(0, 1), 0);
            edges.leaves("1", () -> Games.of(2), g -> g.take(0, 1), 1, 1);
            edges.leaves("11", () -> Games.of(12), g -> g.take(0, 1), 11, 11);
        });
    }

    private static CairnGame takenFrom(int heap, int stones) {
        CairnGame game = Games.ones(2);
        game.take(heap, stones);
        return game;
    }

    private static void promise9() {
        edges.sentence("9", "Throws IndexOutOfBoundsException if there is no such heap", () -> {
            for (int wrong : new int[] {-1, 2, 12, Integer.MIN_VALUE, Integer.MAX_VALUE}) {
                edges.refuses("heap " + wrong, Edges.INDEX, () -> Games.of(4, 2), g -> g.split(wrong, 1));
            }
            edges.refuses("none", Edges.INDEX, CairnGame::new, g -> g.split(0, 1));
            edges.refuses("none, splitting forbidden", Edges.INDEX, () -> Games.takesOf(3), g -> g.split(0, 1));
        });
        edges.sentence("9", "first: 1 to 6: the stones of the first part", () -> {
            edges.leaves("1", () -> Games.of(12), g -> g.split(0, 1), 2, 1, 11);
            edges.leaves("6", () -> Games.of(12), g -> g.split(0, 6), 2, 6, 6);
        });
        edges.sentence("9", "Throws IllegalArgumentException if first is out of range", () -> {
            for (int wrong : new int[] {0, -1, 7, Integer.MIN_VALUE, Integer.MAX_VALUE}) {
                edges.refuses(wrong + " of 12", Edges.ARGUMENT, () -> Games.of(12), g -> g.split(0, wrong));
                edges.refuses(wrong + ", forbidden", Edges.ARGUMENT, () -> Games.takesOf(3, 12),
                        g -> g.split(0, wrong));
            }
        });
        edges.sentence("9", "Throws IllegalStateException if this is no move", () -> {
            edges.refuses("forbidden", Edges.STATE, () -> Games.takesOf(3, 12), g -> g.split(0, 6));
            edges.refuses("1 stone", Edges.STATE, () -> Games.of(1), g -> g.split(0, 1));
            edges.refuses("2 of 3", Edges.STATE, () -> Games.of(3), g -> g.split(0, 2));
            edges.refuses("6 of 11", Edges.STATE, () -> Games.of(11), g -> g.split(0, 6));
            edges.refuses("6 of 6", Edges.STATE, () -> Games.of(6), g -> g.split(0, 6));
            edges.leaves("5 of 11", () -> Games.of(11), g -> g.split(0, 5), 2, 5, 6);
        });
        edges.sentence("9", "Returns the number of heaps then.", () -> {
            edges.leaves("2", () -> Games.of(2), g -> g.split(0, 1), 2, 1, 1);
            edges.leaves("12", () -> Games.of(2, 1, 1, 1, 1, 1, 1, 1, 1, 1, 1), g -> g.split(0, 1), 12,
                    1, 1, 1, 1, 1, 1, 1, 1, 1, 1, 1, 1);
        });
    }

    private static void promise10() {
        edges.sentence("10", "Throws IndexOutOfBoundsException if there is no such heap", () -> {
            for (int wrong : new int[] {-1, 2, 12, Integer.MIN_VALUE, Integer.MAX_VALUE}) {
                edges.refuses("heap " + wrong, Edges.INDEX, () -> Games.merging(4, 2), g -> g.merge(wrong, 1));
                edges.refuses("other " + wrong, Edges.INDEX, () -> Games.merging(4, 2), g -> g.merge(0, wrong));
                edges.refuses("both " + wrong, Edges.INDEX, () -> Games.merging(4, 2), g -> g.merge(wrong, wrong));
                edges.refuses("other " + wrong + ", forbidden", Edges.INDEX, () -> Games.of(4, 2),
                        g -> g.merge(0, wrong));
            }
            edges.refuses("none", Edges.INDEX, () -> Games.merging(), g -> g.merge(0, 0));
        });
        edges.sentence("10", "number of another heap, lower or higher", () -> {
            edges.leaves("higher", () -> Games.merging(4, 1, 2), g -> g.merge(0, 2), 5, 5, 1);
            edges.leaves("lower", () -> Games.merging(4, 1, 2), g -> g.merge(2, 0), 5, 5, 1);
            edges.leaves("higher by 1", () -> Games.merging(4, 1, 2), g -> g.merge(1, 2), 2, 4, 2);
            edges.leaves("lower by 1", () -> Games.merging(4, 1, 2), g -> g.merge(2, 1), 2, 4, 2);
        });
        edges.sentence("10", "Throws IllegalArgumentException if both numbers are the same", () -> {
            edges.refuses("the first", Edges.ARGUMENT, () -> Games.merging(4, 2), g -> g.merge(0, 0));
            edges.refuses("the last", Edges.ARGUMENT, () -> Games.merging(4, 2), g -> g.merge(1, 1));
            edges.refuses("the only one", Edges.ARGUMENT, () -> Games.merging(4), g -> g.merge(0, 0));
            edges.refuses("forbidden", Edges.ARGUMENT, () -> Games.of(4, 2), g -> g.merge(1, 1));
        });
        edges.sentence("10", "Throws IllegalStateException if merging is not allowed", () -> {
            edges.refuses("higher", Edges.STATE, () -> Games.of(4, 2), g -> g.merge(0, 1));
            edges.refuses("lower", Edges.STATE, () -> Games.of(4, 2), g -> g.merge(1, 0));
            edges.refuses("12 heaps", Edges.STATE, () -> Games.ones(12), g -> g.merge(0, 11));
        });
        edges.sentence("10", "Returns the number of stones of the heap that becomes of both.", () -> {
            edges.leaves("the least", () -> Games.merging(1, 1), g -> g.merge(0, 1), 1, 1);
            edges.leaves("the greatest, of halves", () -> Games.merging(6, 6), g -> g.merge(1, 0), 11, 11);
            edges.leaves("the greatest, with 1", () -> Games.merging(1, 11), g -> g.merge(1, 0), 11, 11);
        });
    }

    private static void promise11() {
        edges.sentence("11", "Throws IndexOutOfBoundsException if there is no such move", () -> {
            for (int wrong : new int[] {-1, 4, Integer.MIN_VALUE, Integer.MAX_VALUE}) {
                edges.refuses("" + wrong, Edges.INDEX, () -> Games.of(3), g -> g.make(wrong));
            }
            edges.refuses("0 of none", Edges.INDEX, CairnGame::new, g -> g.make(0));
            edges.refuses("78 of 78", Edges.INDEX, () -> Games.mergingOnes(12), g -> g.make(78));
            edges.refuses("a split that is forbidden", Edges.INDEX, () -> Games.takesOf(3, 3), g -> g.make(3));
        });
        edges.sentence("11", "Makes the move with a number.", () -> {
            edges.leaves("the first", () -> Games.merging(2, 2), g -> g.make(0), CairnGame.TAKE, 1, 2);
            edges.leaves("the last take", () -> Games.merging(2, 2), g -> g.make(3), CairnGame.TAKE, 2);
            edges.leaves("the first split", () -> Games.merging(2, 2), g -> g.make(4), CairnGame.SPLIT, 1, 1, 2);
            edges.leaves("the last split", () -> Games.merging(2, 2), g -> g.make(5), CairnGame.SPLIT, 2, 1, 1);
            edges.leaves("the only merge", () -> Games.merging(2, 2), g -> g.make(6), CairnGame.MERGE, 3);
            edges.leaves("the last of 78", () -> Games.mergingOnes(12), g -> g.make(77), CairnGame.MERGE,
                    1, 1, 1, 1, 1, 1, 1, 1, 1, 1, 1);
        });
    }

    // ---- the game as it is

    private static void promises12to14() {
        edges.sentence("12", "Returns the number of heaps.", () -> {
            edges.same("none", new CairnGame().heaps(), 0);
            edges.same("1", Games.of(12).heaps(), 1);
            edges.same("12", Games.ones(12).heaps(), 12);
            edges.changesNothing("heaps()", () -> Games.withText(Games.of(4, 2), "t0-1"), g -> g.heaps());
        });
        edges.sentence("13", "Throws IndexOutOfBoundsException if there is no such heap", () -> {
            for (int wrong : new int[] {-1, 2, 12, Integer.MIN_VALUE, Integer.MAX_VALUE}) {
                edges.refuses("heap " + wrong, Edges.INDEX, () -> Games.of(4, 2), g -> g.stonesOf(wrong));
            }
            edges.refuses("none", Edges.INDEX, CairnGame::new, g -> g.stonesOf(0));
            edges.refuses("gone", Edges.INDEX, () -> takenFrom(0, 1), g -> g.stonesOf(1));
            edges.refuses("begun anew", Edges.INDEX, () -> begun(4, 2), g -> g.stonesOf(0));
        });
        edges.sentence("13", "Returns the number of stones.", () -> {
            edges.same("1", Games.of(1).stonesOf(0), 1);
            edges.same("12", Games.of(12).stonesOf(0), 12);
        });
        edges.sentence("14", "Returns the number of stones together.", () -> {
            edges.same("none", new CairnGame().stones(), 0);
            edges.same("1", Games.of(1).stones(), 1);
            edges.same("12 in one", Games.of(12).stones(), 12);
            edges.same("12 heaps", Games.ones(12).stones(), 12);
        });
    }

    private static CairnGame begun(int... sizes) {
        CairnGame game = Games.of(sizes);
        game.begin();
        return game;
    }

    private static void promises15to18() {
        edges.sentence("15", "Returns the greatest take.", () -> {
            edges.same("at first", new CairnGame().greatestTake(), 3);
            edges.same("the least", Games.takesOf(1).greatestTake(), 1);
            edges.same("the greatest", Games.takesOf(5).greatestTake(), 5);
        });
        edges.sentence("16", "Tells whether splitting is allowed.", () -> {
            edges.holds("at first", new CairnGame().isSplitting());
            edges.holds("turned", !Games.takesOf(3).isSplitting());
        });
        edges.sentence("17", "Tells whether merging is allowed.", () -> {
            edges.holds("at first", !new CairnGame().isMerging());
            edges.holds("turned", Games.merging().isMerging());
        });
        edges.sentence("18", "Tells whether the ending is normal.", () -> {
            edges.holds("at first", new CairnGame().isNormal());
            edges.holds("turned", !Games.turned().isNormal());
        });
    }

    private static void promises19to21() {
        edges.sentence("19", "Returns the player whose turn it is.", () -> {
            edges.same("at first", new CairnGame().player(), 0);
            CairnGame game = Games.of(2);
            game.take(0, 1);
            edges.same("after a move", game.player(), 1);
            game.take(0, 1);
            edges.same("after two", game.player(), 0);
            game.undo();
            edges.same("one undone", game.player(), 1);
        });
        edges.sentence("20", "Returns the number of moves that were made in this game so far.", () -> {
            edges.same("none", Games.of(12).made(), 0);
            CairnGame game = Games.of(12);
            // 11 splits, then 12 takes: the longest game
            for (int heap = 0; heap < 11; heap++) {
                game.split(heap, 1);
            }
            for (int stone = 0; stone < 12; stone++) {
                game.take(0, 1);
            }
            edges.same("the longest game", game.made(), 23);
            edges.same("its splits", game.madeOf(CairnGame.SPLIT), 11);
            edges.same("its takes", game.madeOf(CairnGame.TAKE), 12);
            game.addHeap(1);
            game.take(0, 1);
            edges.same("a heap more goes on with the same game", game.made(), 24);
            game.begin();
            edges.same("a game later", game.made(), 0);
        });
        edges.sentence("21", "kind: TAKE, SPLIT or MERGE", () -> {
            CairnGame game = Games.merging(3, 3);
            game.take(0, 1);
            game.split(1, 1);
            game.merge(0, 1);
            game.merge(0, 1);
            edges.same("takes", game.madeOf(0), 1);
            edges.same("splits", game.madeOf(1), 1);
            edges.same("merges", game.madeOf(2), 2);
        });
        edges.sentence("21", "Throws IllegalArgumentException if there is no such kind", () -> {
            for (int wrong : new int[] {-1, 3, Integer.MIN_VALUE, Integer.MAX_VALUE}) {
                edges.refuses("kind " + wrong, Edges.ARGUMENT, () -> Games.of(3), g -> g.madeOf(wrong));
            }
        });
    }

    private static void promise22() {
        edges.sentence("22", "Returns the player who has won", () -> {
            for (int moves = 1; moves <= 12; moves++) {
                CairnGame game = Games.ones(moves);
                for (int move = 0; move < moves; move++) {
                    game.make(0);
                }
                edges.same("after " + moves + " moves", game.winner(), (moves - 1) % 2);
                game.turnEnding();
                edges.same("after " + moves + " moves, turned round", game.winner(), moves % 2);
            }
            CairnGame played = Games.withText(Games.turned(2), "s0/1,t0-1,t0-1");
            played.play();
            edges.same("by play(), turned round", played.winner(), 1);
        });
        edges.sentence("22", "NONE if there is a heap, or if no move was made", () -> {
            edges.same("no heap, no move", new CairnGame().winner(), CairnGame.NONE);
            edges.same("no heap, no move, turned round", Games.turned().winner(), CairnGame.NONE);
            edges.same("a heap, no move", Games.of(1).winner(), CairnGame.NONE);
            CairnGame game = Games.ones(2);
            game.take(0, 1);
            edges.same("a heap, a move", game.winner(), CairnGame.NONE);
            game.take(0, 1);
            edges.same("no heap, a move", game.winner(), 1);
            game.addHeap(1);
            edges.same("a heap again", game.winner(), CairnGame.NONE);
            game.undo();
            edges.same("no heap again", game.winner(), 1);
            game.begin();
            edges.same("no move in this game", game.winner(), CairnGame.NONE);
            game.undo();
            edges.same("the game before", game.winner(), 1);
            game.undo();
            game.undo();
            edges.same("no move, undone", game.winner(), CairnGame.NONE);
        });
    }

    private static void promises23to26() {
        edges.sentence("23", "Returns the number of moves that are possible.", () -> {
            edges.same("none", Games.merging().moves(), 0);
            edges.same("1", Games.merging(1).moves(), 1);
            edges.same("the most", Games.mergingOnes(12).moves(), 78);
        });
        edges.sentence("24", "Throws IndexOutOfBoundsException if there is no such move",
                () -> noSuchMove((g, move) -> g.kindOf(move)));
        edges.sentence("25", "Throws IndexOutOfBoundsException if there is no such move",
                () -> noSuchMove((g, move) -> g.heapOf(move)));
        edges.sentence("26", "Throws IndexOutOfBoundsException if there is no such move",
                () -> noSuchMove((g, move) -> g.amountOf(move)));
        edges.sentence("24", "Returns TAKE, SPLIT or MERGE.", () -> {
            CairnGame game = Games.merging(2, 2);
            edges.same("the first", game.kindOf(0), CairnGame.TAKE);
            edges.same("the last take", game.kindOf(3), CairnGame.TAKE);
            edges.same("the first split", game.kindOf(4), CairnGame.SPLIT);
            edges.same("the last split", game.kindOf(5), CairnGame.SPLIT);
            edges.same("the last", game.kindOf(6), CairnGame.MERGE);
        });
        edges.sentence("25", "of a merge the lower one", () -> {
            edges.same("0 and 1", Games.mergingOnes(12).heapOf(12), 0);
            edges.same("0 and 11", Games.mergingOnes(12).heapOf(22), 0);
            edges.same("10 and 11", Games.mergingOnes(12).heapOf(77), 10);
        });
        edges.sentence("26",
                "Returns the stones that are taken by a move, those of the first part, or the higher heap of a "
                + "merge.", () -> {
            CairnGame game = Games.of(12);
            game.setGreatestTake(5);
            edges.same("the least take", game.amountOf(0), 1);
            edges.same("the greatest take", game.amountOf(4), 5);
            edges.same("the least first part", game.amountOf(5), 1);
            edges.same("the greatest first part", game.amountOf(10), 6);
            edges.same("the first merge", Games.mergingOnes(12).amountOf(12), 1);
            edges.same("the last merge", Games.mergingOnes(12).amountOf(77), 11);
        });
    }

    /** A call on a game with the number of a move. */
    private interface OfMove {
        long on(CairnGame game, int move);
    }

    private static void noSuchMove(OfMove call) {
        for (int wrong : new int[] {-1, 4, Integer.MIN_VALUE, Integer.MAX_VALUE}) {
            edges.refuses("" + wrong, Edges.INDEX, () -> Games.of(3), g -> call.on(g, wrong));
        }
        edges.refuses("0 of none", Edges.INDEX, CairnGame::new, g -> call.on(g, 0));
        edges.refuses("78 of 78", Edges.INDEX, () -> Games.mergingOnes(12), g -> call.on(g, 78));
        edges.changesNothing("the last", () -> Games.withText(Games.of(3), "t0-1"), g -> call.on(g, 3));
        edges.refuses("a split that was possible before", Edges.INDEX, () -> {
            CairnGame game = Games.of(3);
            call.on(game, 3);
            game.turnSplitting();
            return game;
        }, g -> call.on(g, 3));
    }
}
