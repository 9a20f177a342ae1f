import java.util.ArrayList;
import java.util.List;

/** Every position of at most 12 stones, by each set of rules and both endings, against the reference. */
public final class PositionsTest {
    private static final Checks checks = new Checks();

    public static void main(String[] args) {
        List<List<Integer>> positions = new ArrayList<>();
        for (int stones = 0; stones <= 12; stones++) {
            addPositions(positions, new ArrayList<>(), stones, stones);
        }
        checks.same("positions", positions.size(), 272);
        for (List<Integer> heaps : positions) {
            CairnGame game = new CairnGame();
            for (int size : heaps) {
                game.addHeap(size);
            }
            for (int rules = 0; rules < 20; rules++) {
                checkByRules(game, heaps, rules);
            }
        }
        checks.end();
    }

    private static void addPositions(List<List<Integer>> positions, List<Integer> heaps, int rest, int most) {
        if (rest == 0) {
            // neither rising nor falling, so that the order of the heaps matters
            List<Integer> mixed = new ArrayList<>();
            for (int size : heaps) {
                mixed.add(mixed.size() / 2, size);
            }
            positions.add(mixed);
        }
        for (int size = 1; size <= Math.min(rest, most); size++) {
            heaps.add(size);
            addPositions(positions, heaps, rest - size, size);
            heaps.remove(heaps.size() - 1);
        }
    }

    private static void checkByRules(CairnGame game, List<Integer> heaps, int rules) {
        int greatest = rules / 4 + 1;
        boolean splitting = rules % 2 == 1;
        boolean merging = rules / 2 % 2 == 1;
        game.setGreatestTake(greatest);
        if (game.isSplitting() != splitting) {
            game.turnSplitting();
        }
        if (game.isMerging() != merging) {
            game.turnMerging();
        }
        String where = heaps + " by " + greatest + ", " + splitting + ", " + merging + ": ";
        Reference.Worth due = Reference.worth(heaps, greatest, splitting, merging);
        checks.same(where + "number()", game.number(), due.number());
        checks.same(where + "longestGame()", game.longestGame(), due.longest());
        checks.same(where + "shortestGame()", game.shortestGame(), due.shortest());
        int together = 0;
        for (int size : heaps) {
            together ^= Reference.worth(List.of(size), greatest, splitting, merging).number();
        }
        checks.same(where + "numberByHeaps()", game.numberByHeaps(), together);
        if (!merging) {
            checks.same(where + "without merging", game.numberByHeaps(), game.number());
        }
        List<Reference.Move> moves = Reference.list(heaps, greatest, splitting, merging);
        checkMoves(game, moves, where);
        for (int ending = 0; ending < 2; ending++) {
            checkEnding(game, heaps, moves, where);
            game.turnEnding();
        }
    }

    private static void checkMoves(CairnGame game, List<Reference.Move> moves, String where) {
        checks.same(where + "moves()", game.moves(), moves.size());
        for (int m = 0; m < moves.size(); m++) {
            checks.same(where + "kindOf", game.kindOf(m), moves.get(m).kind());
            checks.same(where + "heapOf", game.heapOf(m), moves.get(m).heap());
            checks.same(where + "amountOf", game.amountOf(m), moves.get(m).amount());
        }
    }

    private static boolean isWon(CairnGame game, List<Integer> heaps) {
        Reference.Worth worth = Reference.worth(heaps, game.greatestTake(), game.isSplitting(), game.isMerging());
        return game.isNormal() ? worth.wonNormal() : worth.wonTurned();
    }

    private static void checkEnding(CairnGame game, List<Integer> heaps, List<Reference.Move> moves, String where) {
        int winners = 0;
        int firstWinner = -1;
        int firstLongest = -1;
        int longest = -1;
        for (int m = 0; m < moves.size(); m++) {
            List<Integer> behind = Reference.after(heaps, moves.get(m));
            boolean wins = !isWon(game, behind);
            checks.same(where + "wins(" + m + ")", game.wins(m), wins);
            winners += wins ? 1 : 0;
            firstWinner = wins && firstWinner < 0 ? m : firstWinner;
            int length = Reference.worth(behind, game.greatestTake(), game.isSplitting(), game.isMerging()).longest();
            if (length > longest) {
                longest = length;
                firstLongest = m;
            }
        }
        checks.same(where + "isWon()", game.isWon(), isWon(game, heaps));
        checks.same(where + "winningMoves()", game.winningMoves(), winners);
        checks.same(where + "bestReply()", game.bestReply(), winners > 0 ? firstWinner : firstLongest);
        checks.same(where + "winningShare()", game.winningShare(),
                moves.isEmpty() ? 0.0 : (double) winners / moves.size());
    }
}
