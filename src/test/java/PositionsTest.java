import java.util.ArrayList;
import java.util.List;

/** Every position of at most 12 stones, by each set of rules and both endings, against the reference. */
public final class PositionsTest {
    private static final Checks checks = new Checks();

    public static void main(String[] args) {
        List<List<Integer>> positions = new ArrayList<>();
        for (int stones = 0; stones <= 12; stones++) {
            addPositions(positions, new ArrayList<>(), stones, stones);
        }
        checks.same("positions", positions.size(), 272);
        for (List<Integer> heaps : positions) {
            for (int rules = 0; rules < 20; rules++) {
                checkByRules(heaps, Rules.numbered(rules));
            }
        }
        checks.end();
    }

    private static void addPositions(List<List<Integer>> positions, List<Integer> heaps, int rest, int most) {
        if (rest == 0) {
            // neither rising nor falling, so that the order of the heaps matters
            List<Integer> mixed = new ArrayList<>();
            for (int size : heaps) {
                mixed.add(mixed.size() / 2, size);
            }
            positions.add(mixed);
        }
        for (int size = 1; size <= Math.min(rest, most); size++) {
            heaps.add(size);
            addPositions(positions, heaps, rest - size, size);
            heaps.remove(heaps.size() - 1);
        }
    }

    /** The rules that moves depend on. */
    private record Rules(int greatest, boolean splitting, boolean merging) {
        static Rules numbered(int rules) {
            return new Rules(rules / 4 + 1, rules % 2 == 1, rules / 2 % 2 == 1);
        }

        CairnGame game(List<Integer> heaps) {
            return Games.by(greatest, splitting, merging, heaps.stream().mapToInt(Integer::intValue).toArray());
        }

        List<Reference.Move> moves(List<Integer> heaps) {
            return Reference.list(heaps, greatest, splitting, merging);
        }

        Reference.Worth worth(List<Integer> heaps) {
            return Reference.worth(heaps, greatest, splitting, merging);
        }

        boolean isWon(List<Integer> heaps, boolean normal) {
            return normal ? worth(heaps).wonNormal() : worth(heaps).wonTurned();
        }
    }

    /** On a game of its own: by all rules there would be more than 512 calls. */
    private static void checkByRules(List<Integer> heaps, Rules rules) {
        CairnGame game = rules.game(heaps);
        String where = heaps + " by " + rules + ": ";
        Reference.Worth due = rules.worth(heaps);
        checks.same(where + "number()", game.number(), due.number());
        checks.same(where + "longestGame()", game.longestGame(), due.longest());
        checks.same(where + "shortestGame()", game.shortestGame(), due.shortest());
        int together = 0;
        for (int size : heaps) {
            together ^= rules.worth(List.of(size)).number();
        }
        checks.same(where + "numberByHeaps()", game.numberByHeaps(), together);
        if (!rules.merging) {
            checks.same(where + "without merging", game.numberByHeaps(), game.number());
        }
        checkMoves(game, rules.moves(heaps), where);
        checkEnding(game, heaps, rules, true);
        game.turnEnding();
        checkEnding(game, heaps, rules, false);
    }

    private static void checkMoves(CairnGame game, List<Reference.Move> moves, String where) {
        checks.same(where + "moves()", game.moves(), moves.size());
        for (int m = 0; m < moves.size(); m++) {
            checks.same(where + "kindOf", game.kindOf(m), moves.get(m).kind());
            checks.same(where + "heapOf", game.heapOf(m), moves.get(m).heap());
            checks.same(where + "amountOf", game.amountOf(m), moves.get(m).amount());
        }
    }

    private static void checkEnding(CairnGame game, List<Integer> heaps, Rules rules, boolean normal) {
        String where = heaps + " by " + rules + ", normal " + normal + ": ";
        List<Reference.Move> moves = rules.moves(heaps);
        int winners = 0;
        int firstWinner = -1;
        int firstLongest = -1;
        int longest = -1;
        for (int m = 0; m < moves.size(); m++) {
            List<Integer> behind = Reference.after(heaps, moves.get(m));
            boolean wins = !rules.isWon(behind, normal);
            checks.same(where + "wins(" + m + ")", game.wins(m), wins);
            winners += wins ? 1 : 0;
            firstWinner = wins && firstWinner < 0 ? m : firstWinner;
            int length = rules.worth(behind).longest();
            if (length > longest) {
                longest = length;
                firstLongest = m;
            }
        }
        checks.same(where + "isWon()", game.isWon(), rules.isWon(heaps, normal));
        checks.same(where + "winningMoves()", game.winningMoves(), winners);
        checks.same(where + "bestReply()", game.bestReply(), winners > 0 ? firstWinner : firstLongest);
        checks.same(where + "winningShare()", game.winningShare(),
                moves.isEmpty() ? 0.0 : (double) winners / moves.size());
    }
}
