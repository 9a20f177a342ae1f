/** The digest of every order of heaps of at most 12 stones, with splitting and merging or not, and both endings. */
public final class OrdersTest {
    private static final int MOST_STONES = 12;
    private static final Checks checks = new Checks();
    private static int orders = 0;

    public static void main(String[] args) {
        addOrders(new int[0], MOST_STONES);
        checks.same("orders", orders, 4096);
        checks.end();
    }

    private static void addOrders(int[] sizes, int rest) {
        orders++;
        checkOrder(sizes);
        for (int size = 1; size <= rest; size++) {
            int[] longer = java.util.Arrays.copyOf(sizes, sizes.length + 1);
            longer[sizes.length] = size;
            addOrders(longer, rest - size);
        }
    }

    private static void checkOrder(int[] sizes) {
        CairnGame game = Games.of(sizes);
        Reference reference = new Reference();
        for (int size : sizes) {
            reference.addHeap(size);
        }
        // all greatest takes, one by one, would be slow; PositionsTest has them all
        int greatest = 1 + orders % 5;
        game.setGreatestTake(greatest);
        reference.setGreatestTake(greatest);
        // each step turns one rule; 8 of them pass all settings of the three, and come back
        for (int step = 1; step <= 8; step++) {
            turnOne(game, reference, step);
            checks.same(java.util.Arrays.toString(sizes) + ", greatest take " + greatest + ", step " + step,
                    game.digest(), reference.digest());
        }
    }

    private static void turnOne(CairnGame game, Reference reference, int step) {
        if (step % 2 == 1) {
            game.turnEnding();
            reference.turnEnding();
        } else if (step % 4 == 2) {
            game.turnSplitting();
            reference.turnSplitting();
        } else {
            game.turnMerging();
            reference.turnMerging();
        }
    }
}
