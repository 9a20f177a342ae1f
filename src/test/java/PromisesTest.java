/** Each promise of the document by itself, under its number. */
public final class PromisesTest {
    private static final Class<IndexOutOfBoundsException> INDEX = IndexOutOfBoundsException.class;
    private static final Class<IllegalArgumentException> ARGUMENT = IllegalArgumentException.class;
    private static final Class<IllegalStateException> STATE = IllegalStateException.class;

    private static final Checks checks = new Checks();

    public static void main(String[] args) {
        heapsAndRules();
        movesMade();
        gameAsItIs();
        possibleMoves();
        worth();
        textCalls();
        undoAndDigest();
        checks.end();
    }

    // ---- helpers

    private static void sizes(String what, CairnGame game, int... due) {
        checks.same(what + ", heaps", game.heaps(), due.length);
        for (int heap = 0; heap < due.length && heap < game.heaps(); heap++) {
            checks.same(what + ", heap " + heap, game.stonesOf(heap), due[heap]);
        }
    }

    /** The call saved just one state: undo brings back the digest from before it. */
    private static void undoes(String what, CairnGame game, Checks.Call call) {
        long before = game.digest();
        call.answer();
        game.undo();
        checks.same(what + " undone", game.digest(), before);
    }

    // ---- heaps and rules

    private static void heapsAndRules() {
        promise1();
        promise2();
        promise3();
        promise4();
        promise5();
        promise6();
        promise7();
    }

    private static void promise1() {
        CairnGame game = new CairnGame();
        checks.same("1 heaps", game.heaps(), 0);
        checks.same("1 stones", game.stones(), 0);
        checks.same("1 greatest take", game.greatestTake(), 3);
        checks.holds("1 splitting", game.isSplitting());
        checks.holds("1 no merging", !game.isMerging());
        checks.holds("1 normal", game.isNormal());
        checks.same("1 player", game.player(), 0);
        checks.same("1 made", game.made(), 0);
        checks.same("1 text", game.clearText(), 0);
        checks.refuses("1 nothing saved", STATE, game, game::undo);
        checks.same("1 digest", game.digest(), -3449928064310207524L);
        checks.same("1 NONE", CairnGame.NONE, -1);
        checks.same("1 TAKE", CairnGame.TAKE, 0);
        checks.same("1 SPLIT", CairnGame.SPLIT, 1);
        checks.same("1 MERGE", CairnGame.MERGE, 2);
    }

    private static void promise2() {
        CairnGame game = Games.merging(4, 5);
        game.setGreatestTake(2);
        game.turnSplitting();
        game.turnEnding();
        game.take(0, 1);
        Games.withText(game, "t0");
        undoes("2 begin", game, game::begin);
        checks.same("2 made came back", game.madeOf(CairnGame.TAKE), 1);
        checks.same("2 stones that there were", game.begin(), 8);
        sizes("2 no heaps", game);
        checks.same("2 player", game.player(), 0);
        checks.same("2 made", game.made(), 0);
        checks.same("2 made of takes", game.madeOf(CairnGame.TAKE), 0);
        checks.same("2 winner", game.winner(), CairnGame.NONE);
        checks.same("2 greatest take stays", game.greatestTake(), 2);
        checks.holds("2 splitting stays", !game.isSplitting());
        checks.holds("2 merging stays", game.isMerging());
        checks.holds("2 ending stays", !game.isNormal());
        checks.same("2 again", game.begin(), 0);
        checks.same("2 text stays", game.clearText(), 2);
    }

    private static void promise3() {
        CairnGame game = new CairnGame();
        for (int far : Games.FAR) {
            checks.refuses("3 far", ARGUMENT, game, () -> game.addHeap(far));
        }
        checks.refuses("3 no stones", ARGUMENT, game, () -> game.addHeap(0));
        checks.refuses("3 13 stones", ARGUMENT, game, () -> game.addHeap(13));
        undoes("3 addHeap", game, () -> game.addHeap(12));
        checks.same("3 first", game.addHeap(7), 1);
        checks.same("3 behind", game.addHeap(4), 2);
        checks.refuses("3 more than 12", STATE, game, () -> game.addHeap(2));
        checks.refuses("3 range first", ARGUMENT, game, () -> game.addHeap(13));
        checks.same("3 the twelfth stone", game.addHeap(1), 3);
        sizes("3 order", game, 7, 4, 1);
        checks.refuses("3 thirteenth stone", STATE, game, () -> game.addHeap(1));
        checks.same("3 no move", game.made(), 0);
        sizes("3 twelve heaps", Games.of(1, 1, 1, 1, 1, 1, 1, 1, 1, 1, 1, 1), 1, 1, 1, 1, 1, 1, 1, 1, 1, 1, 1, 1);
        sizes("3 one heap", Games.of(12), 12);
        CairnGame later = Games.of(3);
        later.take(0, 1);
        later.addHeap(1);
        checks.same("3 player stays", later.player(), 1);
        checks.same("3 made stays", later.made(), 1);
    }

    private static void promise4() {
        CairnGame game = Games.of(6);
        for (int far : Games.FAR) {
            checks.refuses("4 far", ARGUMENT, game, () -> game.setGreatestTake(far));
        }
        checks.refuses("4 none", ARGUMENT, game, () -> game.setGreatestTake(0));
        checks.refuses("4 six", ARGUMENT, game, () -> game.setGreatestTake(6));
        undoes("4 setGreatestTake", game, () -> game.setGreatestTake(5));
        checks.same("4 before", game.setGreatestTake(1), 3);
        checks.same("4 after", game.greatestTake(), 1);
        checks.same("4 one take", game.amountOf(0), 1);
        checks.same("4 then splits", game.kindOf(1), CairnGame.SPLIT);
        checks.same("4 before again", game.setGreatestTake(5), 1);
        checks.same("4 takes of 5", game.amountOf(4), 5);
    }

    private static void promise5() {
        CairnGame game = Games.of(4);
        undoes("5 turnSplitting", game, () -> Games.one(game.turnSplitting()));
        checks.holds("5 forbids", !game.turnSplitting());
        checks.holds("5 forbidden", !game.isSplitting());
        checks.same("5 takes alone", game.moves(), 3);
        checks.holds("5 allows", game.turnSplitting());
        checks.same("5 takes and splits", game.moves(), 5);
    }

    private static void promise6() {
        CairnGame game = Games.of(1, 1);
        undoes("6 turnMerging", game, () -> Games.one(game.turnMerging()));
        checks.holds("6 allows", game.turnMerging());
        checks.holds("6 allowed", game.isMerging());
        checks.same("6 with the merge", game.moves(), 3);
        checks.holds("6 forbids", !game.turnMerging());
        checks.same("6 without it", game.moves(), 2);
    }

    private static void promise7() {
        CairnGame game = Games.of(1);
        undoes("7 turnEnding", game, () -> Games.one(game.turnEnding()));
        checks.holds("7 turned", !game.turnEnding());
        checks.holds("7 not normal", !game.isNormal());
        checks.holds("7 one stone is lost then", !game.isWon());
        checks.holds("7 turned back", game.turnEnding());
        checks.holds("7 one stone is won", game.isWon());
    }

    // ---- moves

    private static void movesMade() {
        promise8();
        promise9();
        promise10();
        promise11();
    }

    private static void promise8() {
        CairnGame game = Games.of(2, 6, 3);
        for (int far : Games.FAR) {
            checks.refuses("8 far heap", INDEX, game, () -> game.take(far, 1));
            checks.refuses("8 far stones", ARGUMENT, game, () -> game.take(0, far));
        }
        checks.refuses("8 heap behind the last", INDEX, game, () -> game.take(3, 0));
        checks.refuses("8 no stones", ARGUMENT, game, () -> game.take(0, 0));
        checks.refuses("8 six stones", ARGUMENT, game, () -> game.take(1, 6));
        checks.refuses("8 above the greatest take", STATE, game, () -> game.take(1, 4));
        checks.refuses("8 above the heap", STATE, game, () -> game.take(0, 3));
        undoes("8 take", game, () -> game.take(1, 2));
        checks.same("8 stones then", game.take(1, 3), 8);
        sizes("8 some", game, 2, 3, 3);
        checks.same("8 player", game.player(), 1);
        checks.same("8 whole heap", game.take(0, 2), 6);
        sizes("8 heap gone", game, 3, 3);
        checks.same("8 made", game.madeOf(CairnGame.TAKE), 2);
        game.setGreatestTake(5);
        checks.refuses("8 still above the heap", STATE, game, () -> game.take(0, 5));
        checks.same("8 last but one", game.take(1, 3), 3);
        checks.same("8 last", game.take(0, 3), 0);
        checks.refuses("8 no heaps", INDEX, game, () -> game.take(0, 1));
    }

    private static void promise9() {
        CairnGame game = Games.of(5, 4);
        for (int far : Games.FAR) {
            checks.refuses("9 far heap", INDEX, game, () -> game.split(far, 1));
            checks.refuses("9 far part", ARGUMENT, game, () -> game.split(0, far));
        }
        checks.refuses("9 heap behind the last", INDEX, game, () -> game.split(2, 0));
        checks.refuses("9 no first part", ARGUMENT, game, () -> game.split(0, 0));
        checks.refuses("9 first part of 7", ARGUMENT, game, () -> game.split(0, 7));
        checks.refuses("9 greater than the rest", STATE, game, () -> game.split(0, 3));
        checks.refuses("9 no rest", STATE, game, () -> game.split(1, 4));
        undoes("9 split", game, () -> game.split(0, 1));
        checks.same("9 heaps then", game.split(0, 2), 3);
        sizes("9 rest right behind", game, 2, 3, 4);
        checks.same("9 equal parts", game.split(2, 2), 4);
        sizes("9 at the end", game, 2, 3, 2, 2);
        checks.same("9 player", game.player(), 0);
        checks.same("9 made", game.madeOf(CairnGame.SPLIT), 2);
        game.turnSplitting();
        checks.refuses("9 forbidden", STATE, game, () -> game.split(0, 1));
        checks.refuses("9 range first", ARGUMENT, game, () -> game.split(0, 7));
        CairnGame great = Games.of(12);
        great.split(0, 6);
        sizes("9 halves", great, 6, 6);
        CairnGame stone = Games.of(1);
        checks.refuses("9 one stone", STATE, stone, () -> stone.split(0, 1));
    }

    private static void promise10() {
        CairnGame game = Games.of(3, 2, 4, 1);
        checks.refuses("10 forbidden", STATE, game, () -> game.merge(0, 1));
        checks.refuses("10 same, forbidden too", ARGUMENT, game, () -> game.merge(1, 1));
        game.turnMerging();
        for (int far : Games.FAR) {
            checks.refuses("10 far heap", INDEX, game, () -> game.merge(far, 0));
            checks.refuses("10 far other", INDEX, game, () -> game.merge(0, far));
            checks.refuses("10 far both", INDEX, game, () -> game.merge(far, far));
        }
        checks.refuses("10 heap behind the last", INDEX, game, () -> game.merge(4, 0));
        checks.refuses("10 other behind the last", INDEX, game, () -> game.merge(0, 4));
        checks.refuses("10 same", ARGUMENT, game, () -> game.merge(2, 2));
        undoes("10 merge", game, () -> game.merge(0, 3));
        checks.same("10 lower first", game.merge(0, 2), 6);
        sizes("10 lower first", game, 6, 2, 1);
        checks.same("10 higher first", game.merge(2, 1), 2);
        sizes("10 higher first", game, 6, 2);
        checks.same("10 stone thrown away", game.stones(), 8);
        checks.same("10 made", game.madeOf(CairnGame.MERGE), 2);
        checks.same("10 player", game.player(), 0);
        CairnGame ones = Games.merging(1, 1);
        checks.same("10 ones", ones.merge(1, 0), 1);
        sizes("10 ones", ones, 1);
    }

    private static void promise11() {
        CairnGame game = Games.merging(2, 4);
        // 0, 1: takes of heap 0; 2 to 4: of heap 1; 5: split of heap 0; 6, 7: of heap 1; 8: merge
        for (int far : Games.FAR) {
            checks.refuses("11 far", INDEX, game, () -> game.make(far));
        }
        checks.refuses("11 behind the last", INDEX, game, () -> game.make(9));
        undoes("11 make", game, () -> game.make(3));
        checks.same("11 merge", game.make(8), CairnGame.MERGE);
        sizes("11 merged", game, 5);
        game.undo();
        checks.same("11 split", game.make(6), CairnGame.SPLIT);
        sizes("11 split", game, 2, 1, 3);
        checks.same("11 made of splits", game.madeOf(CairnGame.SPLIT), 1);
        game.undo();
        checks.same("11 take", game.make(1), CairnGame.TAKE);
        sizes("11 taken", game, 4);
        checks.same("11 player", game.player(), 1);
        CairnGame empty = new CairnGame();
        checks.refuses("11 no heaps", INDEX, empty, () -> empty.make(0));
    }

    // ---- the game as it is

    private static void gameAsItIs() {
        CairnGame game = Games.merging(5, 2);
        checks.same("12 heaps", game.heaps(), 2);
        checks.same("13 first", game.stonesOf(0), 5);
        checks.same("13 second", game.stonesOf(1), 2);
        for (int far : Games.FAR) {
            checks.refuses("13 far", INDEX, game, () -> game.stonesOf(far));
        }
        checks.refuses("13 behind the last", INDEX, game, () -> game.stonesOf(2));
        checks.same("14 stones", game.stones(), 7);
        checks.same("15 greatest take", game.greatestTake(), 3);
        checks.holds("16 splitting", game.isSplitting());
        checks.holds("17 merging", game.isMerging());
        checks.holds("18 normal", game.isNormal());
        game.turnSplitting();
        game.turnMerging();
        game.turnEnding();
        game.setGreatestTake(4);
        checks.same("15 changed", game.greatestTake(), 4);
        checks.holds("16 changed", !game.isSplitting());
        checks.holds("17 changed", !game.isMerging());
        checks.holds("18 changed", !game.isNormal());
        promises19to21();
        promise22();
    }

    private static void promises19to21() {
        CairnGame game = Games.merging(5, 4);
        checks.same("19 first", game.player(), 0);
        game.split(0, 2);
        checks.same("19 second", game.player(), 1);
        game.take(0, 1);
        game.take(0, 1);
        game.merge(0, 1);
        checks.same("19 first again", game.player(), 0);
        game.take(0, 1);
        checks.same("20 made", game.made(), 5);
        checks.same("21 takes", game.madeOf(CairnGame.TAKE), 3);
        checks.same("21 splits", game.madeOf(CairnGame.SPLIT), 1);
        checks.same("21 merges", game.madeOf(CairnGame.MERGE), 1);
        checks.refuses("21 behind", ARGUMENT, game, () -> game.madeOf(3));
        for (int far : Games.FAR) {
            checks.refuses("21 far", ARGUMENT, game, () -> game.madeOf(far));
        }
        game.setGreatestTake(5);
        game.turnEnding();
        game.addHeap(1);
        checks.same("20 rules and heaps are no moves", game.made(), 5);
        game.undo();
        checks.same("19 undo of a heap", game.player(), 1);
        game.undo();
        game.undo();
        game.undo();
        checks.same("19 undo of a move", game.player(), 0);
        checks.same("20 undo", game.made(), 4);
        checks.same("21 undo", game.madeOf(CairnGame.TAKE), 2);
    }

    private static void promise22() {
        CairnGame game = Games.of(2, 1);
        checks.same("22 before", game.winner(), CairnGame.NONE);
        game.take(0, 2);
        checks.same("22 a heap is left", game.winner(), CairnGame.NONE);
        game.take(0, 1);
        checks.same("22 player 1 made the last move", game.winner(), 1);
        game.turnEnding();
        checks.same("22 and loses", game.winner(), 0);
        game.addHeap(1);
        checks.same("22 goes on", game.winner(), CairnGame.NONE);
        game.take(0, 1);
        checks.same("22 player 0 loses", game.winner(), 1);
        game.turnEnding();
        checks.same("22 player 0 wins", game.winner(), 0);
        game.begin();
        checks.same("22 begun anew", game.winner(), CairnGame.NONE);
        checks.same("22 nothing", new CairnGame().winner(), CairnGame.NONE);
    }

    // ---- moves that are possible

    private static void move(CairnGame game, int move, int kind, int heap, int amount) {
        checks.same("24 kind of " + move, game.kindOf(move), kind);
        checks.same("25 heap of " + move, game.heapOf(move), heap);
        checks.same("26 amount of " + move, game.amountOf(move), amount);
    }

    private static void possibleMoves() {
        CairnGame game = Games.merging(4, 1, 5);
        checks.same("23 moves", game.moves(), 14);
        int[][] due = {{0, 0, 1}, {0, 0, 2}, {0, 0, 3}, {0, 1, 1}, {0, 2, 1}, {0, 2, 2}, {0, 2, 3},
            {1, 0, 1}, {1, 0, 2}, {1, 2, 1}, {1, 2, 2}, {2, 0, 1}, {2, 0, 2}, {2, 1, 2}};
        for (int m = 0; m < due.length; m++) {
            move(game, m, due[m][0], due[m][1], due[m][2]);
        }
        for (int wrong : new int[] {14, -1, Integer.MIN_VALUE, Integer.MAX_VALUE}) {
            checks.refuses("24 " + wrong, INDEX, game, () -> game.kindOf(wrong));
            checks.refuses("25 " + wrong, INDEX, game, () -> game.heapOf(wrong));
            checks.refuses("26 " + wrong, INDEX, game, () -> game.amountOf(wrong));
        }
        game.turnSplitting();
        checks.same("23 without splits", game.moves(), 10);
        move(game, 7, CairnGame.MERGE, 0, 1);
        checks.same("23 none", new CairnGame().moves(), 0);
        checks.same("23 twelve ones", Games.merging(1, 1, 1, 1, 1, 1, 1, 1, 1, 1, 1, 1).moves(), 78);
        checks.same("23 twos", Games.merging(2, 2, 2, 2, 2, 2).moves(), 33);
        CairnGame one = Games.of(12);
        one.setGreatestTake(5);
        checks.same("23 one heap", one.moves(), 11);
        move(one, 10, CairnGame.SPLIT, 0, 6);
    }

    // ---- what would be

    private static void worth() {
        promises27and28();
        promises29and30();
        promises31and32();
        promises33to35();
        nothingChanges();
    }

    private static void promises27and28() {
        checks.same("27 none", new CairnGame().number(), 0);
        checks.same("28 none", new CairnGame().numberByHeaps(), 0);
        CairnGame game = Games.of(4);
        game.turnSplitting();
        checks.same("27 without splits, 4 is 4 mod 4", game.number(), 0);
        game.setGreatestTake(5);
        checks.same("27 takes up to 5", game.number(), 4);
        game.addHeap(5);
        checks.same("27 together", game.number(), 4 ^ 5);
        checks.same("28 together", game.numberByHeaps(), 4 ^ 5);
        CairnGame turned = Games.turned();
        checks.same("27 none, turned", turned.number(), 0);
        CairnGame pair = Games.merging(1, 1);
        // a merge leads to one stone, as both takes do
        checks.same("27 two ones with merging", pair.number(), 0);
        CairnGame unlike = Games.merging(2, 3);
        checks.same("27 with merging", unlike.number(),
                Reference.worth(java.util.List.of(2, 3), 3, true, true).number());
        int two = Games.merging(2).number();
        int three = Games.merging(3).number();
        checks.same("28 with merging", unlike.numberByHeaps(), two ^ three);
        checks.holds("28 merging makes a difference", differsSomewhere());
        rulesChange();
    }

    /** An object that has seen other rules finds the same as a new one by the rules that there are. */
    private static void rulesChange() {
        CairnGame game = Games.of(5, 4, 1);
        for (int rules = 0; rules < 40; rules++) {
            game.setGreatestTake(1 + rules * 3 % 5);
            game.turnMerging();
            if (rules % 2 == 0) {
                game.turnSplitting();
            }
            Reference.Worth due = Reference.worth(java.util.List.of(5, 4, 1), game.greatestTake(),
                    game.isSplitting(), game.isMerging());
            checks.same("27 by changed rules", game.number(), due.number());
            checks.same("29 by changed rules", game.isWon(), due.wonNormal());
            checks.same("33 by changed rules", game.longestGame(), due.longest());
            checks.same("34 by changed rules", game.shortestGame(), due.shortest());
        }
    }

    private static boolean differsSomewhere() {
        for (int a = 1; a <= 6; a++) {
            for (int b = 1; b <= 6; b++) {
                CairnGame game = Games.merging(a, b);
                if (game.number() != game.numberByHeaps()) {
                    return true;
                }
            }
        }
        return false;
    }

    private static void promises29and30() {
        checks.holds("29 none, normal", !new CairnGame().isWon());
        checks.holds("29 none, turned", Games.turned().isWon());
        checks.holds("29 one stone", Games.of(1).isWon());
        checks.holds("29 one stone, turned", !Games.turned(1).isWon());
        checks.holds("29 two ones", !Games.of(1, 1).isWon());
        checks.holds("29 two ones, turned", Games.turned(1, 1).isWon());
        checks.holds("29 two stones, turned", Games.turned(2).isWon());
        CairnGame game = Games.of(2, 1);
        // takes of 1 and 2 from heap 0, a take of heap 1, the split of heap 0
        checks.holds("30 leaves two ones", game.wins(0));
        checks.holds("30 leaves a one", !game.wins(1));
        checks.holds("30 leaves a two", !game.wins(2));
        checks.holds("30 leaves three ones", !game.wins(3));
        game.turnEnding();
        checks.holds("30 two ones, turned", !game.wins(0));
        checks.holds("30 a one, turned", game.wins(1));
        checks.holds("30 a two, turned", !game.wins(2));
        checks.holds("30 three ones, turned", game.wins(3));
        for (int wrong : new int[] {4, -1, Integer.MIN_VALUE, Integer.MAX_VALUE}) {
            checks.refuses("30 " + wrong, INDEX, game, () -> Games.one(game.wins(wrong)));
        }
        checks.holds("30 the last stone", Games.of(1).wins(0));
        checks.holds("30 the last stone, turned", !Games.turned(1).wins(0));
        CairnGame empty = new CairnGame();
        checks.refuses("30 no heaps", INDEX, empty, () -> Games.one(empty.wins(0)));
    }

    private static void promises31and32() {
        checks.same("31 none", new CairnGame().winningMoves(), 0);
        checks.same("31 none, turned", Games.turned().winningMoves(), 0);
        checks.same("32 none", new CairnGame().bestReply(), CairnGame.NONE);
        checks.same("32 none, turned", Games.turned().bestReply(), CairnGame.NONE);
        checks.same("31 one way", Games.of(2, 1).winningMoves(), 1);
        checks.same("31 two ways", Games.turned(2, 1).winningMoves(), 2);
        checks.same("32 first", Games.of(2, 1).bestReply(), 0);
        checks.same("32 first, turned", Games.turned(2, 1).bestReply(), 1);
        CairnGame lost = Games.of(2, 2);
        checks.same("31 lost", lost.winningMoves(), 0);
        // 0 to 3 are takes, 4 and 5 the splits, behind which the game can go on for 5 moves, not only for 4
        checks.same("32 lost, the longest", lost.bestReply(), 4);
        checks.same("32 lost, first of equals", Games.of(1, 1).bestReply(), 0);
        CairnGame takes = Games.of(4);
        takes.turnSplitting();
        checks.same("31 takes alone, lost", takes.winningMoves(), 0);
        checks.same("32 takes alone, the longest", takes.bestReply(), 0);
    }

    private static void promises33to35() {
        checks.same("33 none", new CairnGame().longestGame(), 0);
        checks.same("34 none", new CairnGame().shortestGame(), 0);
        checks.same("35 none", new CairnGame().winningShare(), 0.0);
        checks.same("35 none, turned", Games.turned().winningShare(), 0.0);
        CairnGame game = Games.of(12);
        checks.same("33 splits, then takes", game.longestGame(), 23);
        checks.same("34 takes of 3", game.shortestGame(), 4);
        game.setGreatestTake(5);
        checks.same("34 takes of 5", game.shortestGame(), 3);
        game.turnSplitting();
        checks.same("33 takes alone", game.longestGame(), 12);
        CairnGame ones = Games.of(1, 1, 1, 1);
        checks.same("33 ones", ones.longestGame(), 4);
        checks.same("34 ones", ones.shortestGame(), 4);
        ones.turnMerging();
        checks.same("33 merged ones", ones.longestGame(), 4);
        CairnGame twos = Games.of(2, 2, 2, 2);
        checks.same("34 twos", twos.shortestGame(), 4);
        twos.setGreatestTake(1);
        twos.turnMerging();
        checks.same("34 twos by 1, merged or not", twos.shortestGame(), 8);
        checks.same("35 two thirds", Games.of(2).winningShare(), 2.0 / 3);
        checks.same("35 one of four", Games.of(2, 1).winningShare(), 0.25);
        checks.same("35 lost", Games.of(1, 1).winningShare(), 0.0);
        checks.same("35 all", Games.of(1).winningShare(), 1.0);
    }

    private static void nothingChanges() {
        CairnGame game = Games.withText(Games.merging(3, 2), "t0-1");
        long before = game.digest();
        game.number();
        game.numberByHeaps();
        game.isWon();
        game.wins(0);
        game.winningMoves();
        game.bestReply();
        game.longestGame();
        game.shortestGame();
        game.winningShare();
        checks.same("27 to 35 change nothing", game.digest(), before);
        checks.same("27 to 35 leave the text", game.clearText(), 4);
        checks.same("27 to 35 save nothing", game.undo(), 2);
    }

    // ---- the text

    private static void textCalls() {
        promises36and37();
        promise38();
        promise39();
    }

    private static void promises36and37() {
        CairnGame game = new CairnGame();
        checks.same("37 empty", game.clearText(), 0);
        for (int wrong : new int[] {32, 127, 0, -1, Integer.MIN_VALUE, Integer.MAX_VALUE, 65536 + 't'}) {
            checks.refuses("36 code " + wrong, ARGUMENT, game, () -> game.append(wrong));
        }
        checks.same("36 least code", game.append(33), 1);
        checks.same("36 greatest code", game.append(126), 2);
        for (int length = 3; length <= 60; length++) {
            checks.same("36 length", game.append('x'), length);
        }
        checks.refuses("36 full", STATE, game, () -> game.append('x'));
        checks.refuses("36 range first", ARGUMENT, game, () -> game.append(32));
        checks.same("37 full", game.clearText(), 60);
        checks.same("37 emptied", game.clearText(), 0);
        checks.same("36 again", game.append('t'), 1);
        checks.refuses("36, 37 save nothing", STATE, game, game::undo);
    }

    private static void error(String text, int due) {
        CairnGame game = Games.withText(new CairnGame(), text);
        checks.same("38 " + text, game.firstError(), due);
        checks.same("38 " + text + " again", game.firstError(), due);
        if (due != CairnGame.NONE) {
            checks.refuses("39 " + text, STATE, game, game::play);
        }
        checks.same("38 " + text + " stays", game.clearText(), text.length());
    }

    private static void promise38() {
        String[] whole = {"t0-1", "t9-5", "t10-3", "t11-1", "t1-1", "s0/1", "s9/6", "s10/6", "s1/1", "m0+0", "m1+1",
            "m11+11", "m10+1", "m1+10", "m9+0", "t0-1,s0/1,m0+1", "t0-1,t0-1", "m1+1,m1+1", "m0+10,t0-1"};
        for (String text : whole) {
            error(text, CairnGame.NONE);
        }
        String[] early = {"", "t", "t0", "t1", "t10", "t0-", "s", "s5", "s11/", "m", "m1", "m1+", "t0-1,", "m1+1,t",
            "m0+1,s1/1,"};
        for (String text : early) {
            error(text, text.length());
        }
        String[] wrong = {"x", "T", "0", ",", "ta", "t-", "t12", "t00", "t01", "t100", "t110", "t20", "t0/", "t0+",
            "t0,", "t0-0", "t0-6", "t0-a", "t0-1t", "t0-10", "t0-1;", "s0-", "s0+", "s0/0", "s0/7", "s0/11", "m0-",
            "m0/", "m0+a", "m0+01", "m0+12", "m0+,", "m0+20", "m0+111", "t0-1,,", "t0-1,x", "t0-1,0", "t0-1,s0/1,m0+1x",
            "!", "~", "t:", "t/", "t0-/"};
        for (String text : wrong) {
            error(text, text.length() - 1);
            error(text + "-1", text.length() - 1);
        }
        error("t0-1,t0-1,t0-1,t0-1,t0-1,t0-1,t0-1,t0-1,t0-1,t0-1,t0-1,t0-1,", 60);
        error("m10+11,t10-1,t0-1,t0-1,t0-1,t0-1,t0-1,t0-1,t0-1,t0-1,t0-1-", 57);
        error("m10+11,t10-1,t0-1,t0-1,t0-1,t0-1,t0-1,t0-1,t0-1,t0-1,t0-1", CairnGame.NONE);
    }

    private static void promise39() {
        CairnGame game = Games.withText(Games.of(6), "s0/2,t1-3,t0-2,t0-1,t0-1");
        long before = game.digest();
        checks.same("39 up to the end", game.play(), 4);
        checks.same("39 winner", game.winner(), 1);
        checks.same("39 made", game.made(), 4);
        checks.same("39 text is empty", game.clearText(), 0);
        checks.same("39 one state", game.undo(), 1);
        checks.same("39 undone", game.digest(), before);
        checks.same("39 text stays empty", game.clearText(), 0);
        stops("t0-4", 0);
        stops("t0-1,t0-4,t0-1", 1);
        stops("t2-1", 0);
        stops("t11-1", 0);
        stops("s0/1,s0/1", 1);
        stops("s0/4,t0-1", 0);
        stops("s5/1", 0);
        stops("m0+0,t0-1", 0);
        stops("m0+1,m0+1", 1);
        stops("m1+0,t0-1", 2);
        stops("m0+2", 0);
        stops("m7+0", 0);
        CairnGame fixed = Games.withText(Games.of(6, 2), "m0+1");
        checks.same("39 merging forbidden", fixed.play(), 0);
        fixed.turnSplitting();
        checks.same("39 splitting forbidden", Games.withText(fixed, "s0/1").play(), 0);
        checks.same("39 no heaps", Games.withText(new CairnGame(), "t0-1").play(), 0);
        CairnGame long13 = Games.withText(Games.of(12), "t0-1,t0-1,t0-1,t0-1,t0-1,t0-1,t0-1,t0-1,t0-1,t0-1,t0-1,t0-1");
        checks.same("39 twelve moves", long13.play(), 12);
        checks.same("39 the winner", long13.winner(), 1);
        CairnGame ten = Games.withText(Games.merging(1, 1, 1, 1, 1, 1, 1, 1, 1, 1, 1, 1), "m10+11,t10-1,t9-1");
        checks.same("39 heaps 10 and 11", ten.play(), 3);
        checks.same("39 heaps 10 and 11, stones", ten.stones(), 9);
    }

    /** Of the text's moves, so many are made on heaps of 6 and 2 with merging. */
    private static void stops(String text, int due) {
        CairnGame game = Games.withText(Games.merging(6, 2), text);
        long before = game.digest();
        checks.same("39 " + text, game.play(), due);
        checks.same("39 " + text + ", made", game.made(), due);
        checks.same("39 " + text + ", text", game.clearText(), 0);
        checks.same("39 " + text + ", saved also if none was made", game.undo(), 3);
        checks.same("39 " + text + ", undone", game.digest(), before);
    }

    // ---- undo

    private static void undoAndDigest() {
        CairnGame game = new CairnGame();
        checks.refuses("40 none saved", STATE, game, game::undo);
        long[] digests = new long[9];
        for (int heap = 0; heap < 9; heap++) {
            digests[heap] = game.digest();
            game.addHeap(1);
        }
        Games.withText(game, "t0");
        for (int left = 5; left >= 0; left--) {
            checks.same("40 left", game.undo(), left);
            checks.same("40 state", game.digest(), digests[left + 3]);
        }
        checks.refuses("40 no more than 6", STATE, game, game::undo);
        checks.same("40 text stays", game.clearText(), 2);
        sizes("40 the oldest were dropped", game, 1, 1, 1);
        game.setGreatestTake(1);
        game.undo();
        game.turnSplitting();
        checks.same("40 saved again after undo", game.undo(), 0);
        checks.same("41 begun", new CairnGame().digest(), -3449928064310207524L);
        checks.same("41 twelve", Games.of(12).digest(), 8179468904993771118L);
        promise41();
    }

    /** The digest put together from the other calls, in states that differ in each of them. */
    private static void promise41() {
        CairnGame game = Games.merging(3, 5, 2);
        compareDigest(game);
        game.turnEnding();
        compareDigest(game);
        game.split(1, 2);
        compareDigest(game);
        game.merge(0, 3);
        compareDigest(game);
        game.take(0, 2);
        compareDigest(game);
        game.turnSplitting();
        game.setGreatestTake(5);
        compareDigest(game);
        while (game.heaps() > 0) {
            game.make(game.bestReply());
            compareDigest(game);
        }
    }

    private static void compareDigest(CairnGame game) {
        long hash = 165;
        hash = 31 * hash + game.heaps();
        for (int heap = 0; heap < game.heaps(); heap++) {
            hash = 31 * hash + game.stonesOf(heap);
        }
        long[] values = {game.greatestTake(), Games.one(game.isSplitting()), Games.one(game.isMerging()),
            Games.one(game.isNormal()), game.player(), game.made(), game.winner(), game.moves(), game.number(),
            game.numberByHeaps(), Games.one(game.isWon()), game.winningMoves(), game.bestReply(), game.longestGame(),
            game.shortestGame(), game.madeOf(CairnGame.TAKE), game.madeOf(CairnGame.SPLIT),
            game.madeOf(CairnGame.MERGE)};
        for (long value : values) {
            hash = 31 * hash + value;
        }
        checks.same("41 digest", game.digest(), hash);
    }
}
