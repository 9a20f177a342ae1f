import java.util.ArrayList;
import java.util.List;
import java.util.Set;
import java.util.TreeSet;

/**
 * The sentences of the document that name a boundary case, each with a test of its own. A call is tried on a game that
 * is made anew for it, and then the whole game is compared with a second one: heaps, saved states and text.
 */
final class Edges {
    /** Makes the same game each time. */
    interface Maker {
        CairnGame make();
    }

    /** A call on a game. */
    interface Call {
        long on(CairnGame game);
    }

    static final Class<IndexOutOfBoundsException> INDEX = IndexOutOfBoundsException.class;
    static final Class<IllegalArgumentException> ARGUMENT = IllegalArgumentException.class;
    static final Class<IllegalStateException> STATE = IllegalStateException.class;

    private static final int MOST_SAVED = 6;
    private static final String SOME_TEXT = "t0-1,s0/1,t0-1";

    private final Checks checks = new Checks();
    private final Set<String> told = new TreeSet<>();
    private String place = "";

    /** Runs the test of one sentence; "4" is promise 4, another place is a part of the terms. */
    void sentence(String where, String words, Runnable test) {
        place = where + " \"" + words + "\": ";
        checks.holds(place + "has one test", told.add(place));
        int before = checks.made();
        try {
            test.run();
        } catch (RuntimeException e) {
            checks.holds(place + "the test threw " + e, false);
        }
        checks.holds(place + "has checks", checks.made() > before);
    }

    void same(String what, long got, long due) {
        checks.same(place + what, got, due);
    }

    void sameShare(String what, double got, double due) {
        checks.same(place + what, got, due);
    }

    void holds(String what, boolean that) {
        checks.holds(place + what, that);
    }

    void sizes(String what, CairnGame game, int... due) {
        List<Integer> dueSizes = new ArrayList<>();
        for (int size : due) {
            dueSizes.add(size);
        }
        List<Integer> got = heapsOf(game);
        same(what + ", heaps", game.heaps(), due.length);
        holds(what + " leaves " + got + ", due are " + dueSizes, got.equals(dueSizes));
    }

    /** On a new game the call answers what is due, and these heaps are there then. */
    void leaves(String what, Maker maker, Call call, long due, int... sizesThen) {
        CairnGame game = maker.make();
        same(what, call.on(game), due);
        sizes(what, game, sizesThen);
    }

    /** The call throws just this exception, and nothing has changed behind it, whether there is a text or not. */
    void refuses(String what, Class<? extends RuntimeException> due, Maker maker, Call call) {
        refusesAsIs(what, due, maker, call);
        refusesAsIs(what + " (with a text)", due, () -> Games.withText(maker.make(), SOME_TEXT), call);
    }

    /** The same for a game that has the text that is wanted. */
    void refusesAsIs(String what, Class<? extends RuntimeException> due, Maker maker, Call call) {
        CairnGame tried = maker.make();
        String thrown = thrownBy(tried, call);
        holds(what + " threw " + thrown + ", due is " + due.getSimpleName(), thrown.equals(due.getSimpleName()));
        unchanged(what, tried, maker, call);
    }

    /** The call, which is marked Undoable, saves one state, the one from before it; at most 6 are kept. */
    void saves(String what, Maker maker, Call call) {
        List<Long> before = history(maker.make());
        CairnGame game = maker.make();
        call.on(game);
        List<Long> after = history(game);
        List<Long> kept = before.subList(0, Math.min(MOST_SAVED, before.size()));
        holds(what + " saves one state", after.subList(1, after.size()).equals(kept));
    }

    /** The call, which is not marked Undoable, saves nothing, and changes nothing but perhaps the text. */
    void savesNothing(String what, Maker maker, Call call) {
        CairnGame game = maker.make();
        call.on(game);
        holds(what + " saves nothing", history(game).equals(history(maker.make())));
    }

    /** The call tells something, and nothing has changed behind it. */
    void changesNothing(String what, Maker maker, Call call) {
        CairnGame tried = maker.make();
        call.on(tried);
        unchanged(what, tried, maker, call);
    }

    private void unchanged(String what, CairnGame tried, Maker maker, Call call) {
        CairnGame fresh = maker.make();
        holds(what + ", the heaps behind it", heapsOf(tried).equals(heapsOf(fresh)));
        holds(what + ", the states behind it", history(tried).equals(history(fresh)));
        same(what + ", the length of the text behind it", tried.clearText(), fresh.clearText());
        // what the text tells is only seen by playing it, which is done on a second pair
        CairnGame played = maker.make();
        thrownBy(played, call);
        CairnGame due = maker.make();
        same(what + ", the first error behind it", played.firstError(), due.firstError());
        if (due.firstError() == CairnGame.NONE && played.firstError() == CairnGame.NONE) {
            same(what + ", the moves of the text behind it", played.play(), due.play());
            same(what + ", the text's moves made behind it", played.digest(), due.digest());
        }
    }

    private static String thrownBy(CairnGame game, Call call) {
        try {
            call.on(game);
        } catch (RuntimeException e) {
            return e.getClass().getSimpleName();
        }
        return "nothing";
    }

    private static List<Integer> heapsOf(CairnGame game) {
        List<Integer> sizes = new ArrayList<>();
        for (int heap = 0; heap < game.heaps(); heap++) {
            sizes.add(game.stonesOf(heap));
        }
        return sizes;
    }

    /** The digest as things are, and then the one of each saved state, the newest first. */
    private List<Long> history(CairnGame game) {
        List<Long> digests = new ArrayList<>();
        List<Integer> left = new ArrayList<>();
        digests.add(game.digest());
        while (digests.size() < 3 * MOST_SAVED) {
            try {
                left.add(game.undo());
            } catch (IllegalStateException e) {
                break;
            }
            digests.add(game.digest());
        }
        for (int undone = 0; undone < left.size(); undone++) {
            same("states left by undo()", left.get(undone), left.size() - 1 - undone);
        }
        return digests;
    }

    void end() {
        System.out.println(told.size() + " sentences");
        checks.end();
    }
}
