/** Games to begin tests with. */
final class Games {
    static final int[] FAR = {Integer.MIN_VALUE, -1, Integer.MAX_VALUE};

    private Games() {
    }

    static CairnGame of(int... sizes) {
        CairnGame game = new CairnGame();
        for (int size : sizes) {
            game.addHeap(size);
        }
        return game;
    }

    static CairnGame merging(int... sizes) {
        CairnGame game = of(sizes);
        game.turnMerging();
        return game;
    }

    static CairnGame turned(int... sizes) {
        CairnGame game = of(sizes);
        game.turnEnding();
        return game;
    }

    /** By these rules, with the normal ending. */
    static CairnGame by(int greatest, boolean splitting, boolean merging, int... sizes) {
        CairnGame game = of(sizes);
        game.setGreatestTake(greatest);
        if (!splitting) {
            game.turnSplitting();
        }
        if (merging) {
            game.turnMerging();
        }
        return game;
    }

    /** Takes of at most so many stones, and nothing else. */
    static CairnGame takesOf(int greatest, int... sizes) {
        return by(greatest, false, false, sizes);
    }

    static CairnGame ones(int heaps) {
        CairnGame game = new CairnGame();
        for (int heap = 0; heap < heaps; heap++) {
            game.addHeap(1);
        }
        return game;
    }

    /** 11 heaps, one of them of 2 stones. */
    static CairnGame onesWithATwo(int place) {
        CairnGame game = new CairnGame();
        for (int heap = 0; heap < 11; heap++) {
            game.addHeap(heap == place ? 2 : 1);
        }
        return game;
    }

    static CairnGame mergingOnes(int heaps) {
        CairnGame game = ones(heaps);
        game.turnMerging();
        return game;
    }

    static CairnGame withText(CairnGame game, String text) {
        for (int i = 0; i < text.length(); i++) {
            game.append(text.charAt(i));
        }
        return game;
    }

    static long one(boolean flag) {
        return flag ? 1 : 0;
    }
}
