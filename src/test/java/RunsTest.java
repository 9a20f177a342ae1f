import java.lang.reflect.InvocationTargetException;
import java.lang.reflect.Method;

/** Long runs of calls with right and wrong arguments, each answer and each exception against the reference. */
public final class RunsTest {
    private static final String[] NAMES = {"begin", "addHeap", "addHeap", "addHeap", "addHeap", "addHeap",
        "setGreatestTake", "turnSplitting", "turnMerging", "turnEnding", "take", "take", "take", "split", "split",
        "merge", "merge", "make", "make", "heaps", "stonesOf", "stones", "greatestTake", "isSplitting", "isMerging",
        "isNormal", "player", "made", "madeOf", "winner", "moves", "kindOf", "heapOf", "amountOf", "number",
        "numberByHeaps", "isWon", "wins", "winningMoves", "bestReply", "longestGame", "shortestGame", "winningShare",
        "append", "clearText", "firstError", "play", "undo", "undo", "digest"};
    private static final int RUNS = 600;
    private static final int CALLS = 512;

    private static final Checks checks = new Checks();
    private static long seed = 165;

    public static void main(String[] args) throws ReflectiveOperationException {
        for (int run = 0; run < RUNS; run++) {
            oneRun(run);
        }
        checks.end();
    }

    private static int below(int bound) {
        seed = seed * 6364136223846793005L + 1442695040888963407L;
        return (int) ((seed >>> 33) % bound);
    }

    private static void oneRun(int run) throws ReflectiveOperationException {
        CairnGame game = new CairnGame();
        Reference reference = new Reference();
        int calls = 0;
        while (calls < CALLS) {
            if (below(12) == 0) {
                String text = text();
                for (int i = 0; i < text.length() && calls < CALLS - 2; i++, calls++) {
                    compare(run, calls, game, reference, "append", new Object[] {(int) text.charAt(i)});
                    if (below(4) == 0) {
                        calls++;
                        compare(run, calls, game, reference, "firstError", new Object[0]);
                    }
                }
                compare(run, calls++, game, reference, below(4) == 0 ? "clearText" : "play", new Object[0]);
            } else {
                String name = NAMES[below(NAMES.length)];
                compare(run, calls++, game, reference, name, arguments(name, reference));
            }
            if (calls < CALLS) {
                compare(run, calls++, game, reference, "digest", new Object[0]);
            }
        }
    }

    private static Object[] arguments(String name, Reference now) {
        switch (name) {
            case "addHeap":
                return new Object[] {below(8) == 0 ? odd(13) : 1 + below(6)};
            case "setGreatestTake":
                return new Object[] {below(4) == 0 ? odd(6) : 1 + below(5)};
            case "take":
                return new Object[] {heap(now), below(6) == 0 ? odd(6) : 1 + below(3)};
            case "split":
                return new Object[] {heap(now), below(6) == 0 ? odd(7) : 1 + below(3)};
            case "merge":
                return new Object[] {heap(now), heap(now)};
            case "stonesOf":
                return new Object[] {heap(now)};
            case "madeOf":
                return new Object[] {below(4) == 0 ? odd(3) : below(3)};
            case "make", "kindOf", "heapOf", "amountOf", "wins":
                return new Object[] {below(6) == 0 ? odd(now.moves()) : below(now.moves() + 1)};
            case "append":
                return new Object[] {below(2) == 0 ? 30 + below(100) : odd(127)};
            default:
                return new Object[0];
        }
    }

    /** A number at or behind the end of a range, or far away. */
    private static int odd(int behind) {
        int[] values = {behind, -1, 0, behind - 1, behind + 1, Integer.MAX_VALUE, Integer.MIN_VALUE, 32, 33, 126};
        return values[below(values.length)];
    }

    private static int heap(Reference now) {
        return below(10) == 0 ? odd(now.heaps()) : below(Math.max(1, now.heaps()));
    }

    private static String text() {
        StringBuilder text = new StringBuilder();
        int items = 1 + below(below(6) == 0 ? 14 : 5);
        for (int item = 0; item < items; item++) {
            if (item > 0) {
                text.append(',');
            }
            int heap = below(3) == 0 ? below(13) : below(3);
            switch (below(3)) {
                case 0 -> text.append('t').append(heap).append('-').append(1 + below(below(8) == 0 ? 6 : 3));
                case 1 -> text.append('s').append(heap).append('/').append(1 + below(below(8) == 0 ? 7 : 3));
                default -> text.append('m').append(heap).append('+').append(below(below(4) == 0 ? 13 : 3));
            }
        }
        if (below(5) == 0) {
            text.insert(below(text.length() + 1), "tsm,-/+0129"
                    .charAt(below(11)));
        }
        if (below(5) == 0) {
            text.setLength(below(text.length()));
        }
        return text.toString();
    }

    private static String outcome(Object on, String name, Object[] arguments) throws ReflectiveOperationException {
        Class<?>[] types = new Class<?>[arguments.length];
        java.util.Arrays.fill(types, int.class);
        Method method = on.getClass().getMethod(name, types);
        try {
            return String.valueOf(method.invoke(on, arguments));
        } catch (InvocationTargetException e) {
            return "throws." + e.getCause().getClass().getSimpleName();
        }
    }

    private static void compare(int run, int call, CairnGame game, Reference reference, String name,
            Object[] arguments) throws ReflectiveOperationException {
        String got = outcome(game, name, arguments);
        String due = outcome(reference, name, arguments);
        if (!got.equals(due)) {
            System.out.println("run " + run + ", call " + call + ": " + name + java.util.Arrays.toString(arguments)
                    + " answered " + got + ", due is " + due);
        }
        checks.holds("run " + run, got.equals(due));
    }
}
